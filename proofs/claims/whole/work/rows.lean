section
-- ===== PART A: goes FIRST, ahead of the names: the tables' words, and 'selects' of the private methods out of them =====
/-- a private method of a class that the tables say can be made, by its rows of tables_1 -/
def lw_okq (q : MethodName × Nat) : Prop := (q.1.cls ≠ "java/lang/invoke/MethodHandle" ∧ q.1.cls ≠ "java/lang/invoke/VarHandle") ∧ Cond.instantiable q.1.cls q.2 ∈ tables_1 ∧ Cond.privateMethod q.1 ∈ tables_1 ∧ Cond.instanceMethod q.1 ∈ tables_1
theorem lw_p0 : lw_okq (⟨"CreditLinks", "linkAt", "(I)LCreditLinks$Link;"⟩, 8) := ⟨⟨by decide +kernel, by decide +kernel⟩, List.mem_of_getElem? (i := 22) (by decide +kernel), List.mem_of_getElem? (i := 183) (by decide +kernel), List.mem_of_getElem? (i := 184) (by decide +kernel)⟩
theorem lw_p1 : lw_okq (⟨"java/lang/Throwable", "fillInStackTrace", "(I)Ljava/lang/Throwable;"⟩, 6) := ⟨⟨by decide +kernel, by decide +kernel⟩, List.mem_of_getElem? (i := 225) (by decide +kernel), List.mem_of_getElem? (i := 223) (by decide +kernel), List.mem_of_getElem? (i := 224) (by decide +kernel)⟩
theorem lw_p2 : lw_okq (⟨"CreditLinks", "requireConnection", "()V"⟩, 8) := ⟨⟨by decide +kernel, by decide +kernel⟩, List.mem_of_getElem? (i := 22) (by decide +kernel), List.mem_of_getElem? (i := 280) (by decide +kernel), List.mem_of_getElem? (i := 281) (by decide +kernel)⟩
theorem lw_p3 : lw_okq (⟨"java/util/ArrayList", "add", "(Ljava/lang/Object;[Ljava/lang/Object;I)V"⟩, 3) := ⟨⟨by decide +kernel, by decide +kernel⟩, List.mem_of_getElem? (i := 32) (by decide +kernel), List.mem_of_getElem? (i := 387) (by decide +kernel), List.mem_of_getElem? (i := 388) (by decide +kernel)⟩
theorem lw_p4 : lw_okq (⟨"java/util/ArrayList", "grow", "()[Ljava/lang/Object;"⟩, 3) := ⟨⟨by decide +kernel, by decide +kernel⟩, List.mem_of_getElem? (i := 32) (by decide +kernel), List.mem_of_getElem? (i := 391) (by decide +kernel), List.mem_of_getElem? (i := 392) (by decide +kernel)⟩
theorem lw_p5 : lw_okq (⟨"java/util/ArrayList", "grow", "(I)[Ljava/lang/Object;"⟩, 3) := ⟨⟨by decide +kernel, by decide +kernel⟩, List.mem_of_getElem? (i := 32) (by decide +kernel), List.mem_of_getElem? (i := 395) (by decide +kernel), List.mem_of_getElem? (i := 396) (by decide +kernel)⟩
theorem lw_p6 : lw_okq (⟨"CreditLinks", "addParts", "(LCreditLinks$Delivery;I)V"⟩, 8) := ⟨⟨by decide +kernel, by decide +kernel⟩, List.mem_of_getElem? (i := 22) (by decide +kernel), List.mem_of_getElem? (i := 443) (by decide +kernel), List.mem_of_getElem? (i := 444) (by decide +kernel)⟩
theorem lw_p7 : lw_okq (⟨"CreditLinks", "receiverTakesFrame", "()Z"⟩, 8) := ⟨⟨by decide +kernel, by decide +kernel⟩, List.mem_of_getElem? (i := 22) (by decide +kernel), List.mem_of_getElem? (i := 458) (by decide +kernel), List.mem_of_getElem? (i := 459) (by decide +kernel)⟩
theorem lw_p8 : lw_okq (⟨"CreditLinks", "deliveryAt", "(I)LCreditLinks$Delivery;"⟩, 8) := ⟨⟨by decide +kernel, by decide +kernel⟩, List.mem_of_getElem? (i := 22) (by decide +kernel), List.mem_of_getElem? (i := 470) (by decide +kernel), List.mem_of_getElem? (i := 471) (by decide +kernel)⟩
theorem lw_p9 : lw_okq (⟨"CreditLinks", "senderTakesFrame", "()Z"⟩, 8) := ⟨⟨by decide +kernel, by decide +kernel⟩, List.mem_of_getElem? (i := 22) (by decide +kernel), List.mem_of_getElem? (i := 502) (by decide +kernel), List.mem_of_getElem? (i := 503) (by decide +kernel)⟩
theorem lw_p10 : lw_okq (⟨"CreditLinks", "carryOut", "(LCreditLinks$Delivery;I)V"⟩, 8) := ⟨⟨by decide +kernel, by decide +kernel⟩, List.mem_of_getElem? (i := 22) (by decide +kernel), List.mem_of_getElem? (i := 526) (by decide +kernel), List.mem_of_getElem? (i := 527) (by decide +kernel)⟩
theorem lw_p11 : lw_okq (⟨"CreditLinks", "closeTransaction", "()V"⟩, 8) := ⟨⟨by decide +kernel, by decide +kernel⟩, List.mem_of_getElem? (i := 22) (by decide +kernel), List.mem_of_getElem? (i := 573) (by decide +kernel), List.mem_of_getElem? (i := 574) (by decide +kernel)⟩
theorem lw_p12 : lw_okq (⟨"CreditLinks", "requireTransaction", "()V"⟩, 8) := ⟨⟨by decide +kernel, by decide +kernel⟩, List.mem_of_getElem? (i := 22) (by decide +kernel), List.mem_of_getElem? (i := 613) (by decide +kernel), List.mem_of_getElem? (i := 614) (by decide +kernel)⟩
theorem lw_p13 : lw_okq (⟨"CreditLinksModel", "asked", "(ZZ)Z"⟩, 28) := ⟨⟨by decide +kernel, by decide +kernel⟩, List.mem_of_getElem? (i := 625) (by decide +kernel), List.mem_of_getElem? (i := 731) (by decide +kernel), List.mem_of_getElem? (i := 732) (by decide +kernel)⟩
theorem lw_p14 : lw_okq (⟨"CreditLinksModel", "asked", "(ZZZ)Z"⟩, 28) := ⟨⟨by decide +kernel, by decide +kernel⟩, List.mem_of_getElem? (i := 625) (by decide +kernel), List.mem_of_getElem? (i := 739) (by decide +kernel), List.mem_of_getElem? (i := 740) (by decide +kernel)⟩
theorem lw_p15 : lw_okq (⟨"CreditLinksModel", "returns", "(I)V"⟩, 28) := ⟨⟨by decide +kernel, by decide +kernel⟩, List.mem_of_getElem? (i := 625) (by decide +kernel), List.mem_of_getElem? (i := 743) (by decide +kernel), List.mem_of_getElem? (i := 744) (by decide +kernel)⟩
def lw_privs_1 : List (MethodName × Nat) := [(⟨"CreditLinks", "linkAt", "(I)LCreditLinks$Link;"⟩, 8), (⟨"java/lang/Throwable", "fillInStackTrace", "(I)Ljava/lang/Throwable;"⟩, 6), (⟨"CreditLinks", "requireConnection", "()V"⟩, 8), (⟨"java/util/ArrayList", "add", "(Ljava/lang/Object;[Ljava/lang/Object;I)V"⟩, 3), (⟨"java/util/ArrayList", "grow", "()[Ljava/lang/Object;"⟩, 3), (⟨"java/util/ArrayList", "grow", "(I)[Ljava/lang/Object;"⟩, 3), (⟨"CreditLinks", "addParts", "(LCreditLinks$Delivery;I)V"⟩, 8), (⟨"CreditLinks", "receiverTakesFrame", "()Z"⟩, 8), (⟨"CreditLinks", "deliveryAt", "(I)LCreditLinks$Delivery;"⟩, 8), (⟨"CreditLinks", "senderTakesFrame", "()Z"⟩, 8), (⟨"CreditLinks", "carryOut", "(LCreditLinks$Delivery;I)V"⟩, 8), (⟨"CreditLinks", "closeTransaction", "()V"⟩, 8), (⟨"CreditLinks", "requireTransaction", "()V"⟩, 8), (⟨"CreditLinksModel", "asked", "(ZZ)Z"⟩, 28), (⟨"CreditLinksModel", "asked", "(ZZZ)Z"⟩, 28), (⟨"CreditLinksModel", "returns", "(I)V"⟩, 28)]
theorem lw_r1 : ∀ q ∈ lw_privs_1, lw_okq q := List.forall_mem_cons.mpr ⟨lw_p0, List.forall_mem_cons.mpr ⟨lw_p1, List.forall_mem_cons.mpr ⟨lw_p2, List.forall_mem_cons.mpr ⟨lw_p3, List.forall_mem_cons.mpr ⟨lw_p4, List.forall_mem_cons.mpr ⟨lw_p5, List.forall_mem_cons.mpr ⟨lw_p6, List.forall_mem_cons.mpr ⟨lw_p7, List.forall_mem_cons.mpr ⟨lw_p8, List.forall_mem_cons.mpr ⟨lw_p9, List.forall_mem_cons.mpr ⟨lw_p10, List.forall_mem_cons.mpr ⟨lw_p11, List.forall_mem_cons.mpr ⟨lw_p12, List.forall_mem_cons.mpr ⟨lw_p13, List.forall_mem_cons.mpr ⟨lw_p14, List.forall_mem_cons.mpr ⟨lw_p15, fun _ h => absurd h List.not_mem_nil⟩⟩⟩⟩⟩⟩⟩⟩⟩⟩⟩⟩⟩⟩⟩⟩
theorem lw_p16 : lw_okq (⟨"CreditLinksModel", "asked", "(Z)Z"⟩, 28) := ⟨⟨by decide +kernel, by decide +kernel⟩, List.mem_of_getElem? (i := 625) (by decide +kernel), List.mem_of_getElem? (i := 751) (by decide +kernel), List.mem_of_getElem? (i := 752) (by decide +kernel)⟩
theorem lw_p17 : lw_okq (⟨"CreditLinksModel", "creditOf", "(I)I"⟩, 28) := ⟨⟨by decide +kernel, by decide +kernel⟩, List.mem_of_getElem? (i := 625) (by decide +kernel), List.mem_of_getElem? (i := 755) (by decide +kernel), List.mem_of_getElem? (i := 756) (by decide +kernel)⟩
theorem lw_p18 : lw_okq (⟨"CreditLinksModel", "sends", "(II)V"⟩, 28) := ⟨⟨by decide +kernel, by decide +kernel⟩, List.mem_of_getElem? (i := 625) (by decide +kernel), List.mem_of_getElem? (i := 763) (by decide +kernel), List.mem_of_getElem? (i := 764) (by decide +kernel)⟩
theorem lw_p19 : lw_okq (⟨"CreditLinksModel", "goes", "(I)V"⟩, 28) := ⟨⟨by decide +kernel, by decide +kernel⟩, List.mem_of_getElem? (i := 625) (by decide +kernel), List.mem_of_getElem? (i := 767) (by decide +kernel), List.mem_of_getElem? (i := 768) (by decide +kernel)⟩
theorem lw_p20 : lw_okq (⟨"CreditLinksModel", "comes", "(IIZ)Z"⟩, 28) := ⟨⟨by decide +kernel, by decide +kernel⟩, List.mem_of_getElem? (i := 625) (by decide +kernel), List.mem_of_getElem? (i := 775) (by decide +kernel), List.mem_of_getElem? (i := 776) (by decide +kernel)⟩
theorem lw_p21 : lw_okq (⟨"CreditLinksModel", "isDelivery", "(I)Z"⟩, 28) := ⟨⟨by decide +kernel, by decide +kernel⟩, List.mem_of_getElem? (i := 625) (by decide +kernel), List.mem_of_getElem? (i := 787) (by decide +kernel), List.mem_of_getElem? (i := 788) (by decide +kernel)⟩
theorem lw_p22 : lw_okq (⟨"CreditLinksModel", "decides", "(II)V"⟩, 28) := ⟨⟨by decide +kernel, by decide +kernel⟩, List.mem_of_getElem? (i := 625) (by decide +kernel), List.mem_of_getElem? (i := 791) (by decide +kernel), List.mem_of_getElem? (i := 792) (by decide +kernel)⟩
theorem lw_p23 : lw_okq (⟨"CreditLinksModel", "tells", "(I)I"⟩, 28) := ⟨⟨by decide +kernel, by decide +kernel⟩, List.mem_of_getElem? (i := 625) (by decide +kernel), List.mem_of_getElem? (i := 799) (by decide +kernel), List.mem_of_getElem? (i := 800) (by decide +kernel)⟩
theorem lw_p24 : lw_okq (⟨"CreditLinksModel", "drops", "()V"⟩, 28) := ⟨⟨by decide +kernel, by decide +kernel⟩, List.mem_of_getElem? (i := 625) (by decide +kernel), List.mem_of_getElem? (i := 831) (by decide +kernel), List.mem_of_getElem? (i := 832) (by decide +kernel)⟩
theorem lw_p25 : lw_okq (⟨"CreditLinksModel", "isSentAnew", "(I)Z"⟩, 28) := ⟨⟨by decide +kernel, by decide +kernel⟩, List.mem_of_getElem? (i := 625) (by decide +kernel), List.mem_of_getElem? (i := 839) (by decide +kernel), List.mem_of_getElem? (i := 840) (by decide +kernel)⟩
def lw_privs_2 : List (MethodName × Nat) := [(⟨"CreditLinksModel", "asked", "(Z)Z"⟩, 28), (⟨"CreditLinksModel", "creditOf", "(I)I"⟩, 28), (⟨"CreditLinksModel", "sends", "(II)V"⟩, 28), (⟨"CreditLinksModel", "goes", "(I)V"⟩, 28), (⟨"CreditLinksModel", "comes", "(IIZ)Z"⟩, 28), (⟨"CreditLinksModel", "isDelivery", "(I)Z"⟩, 28), (⟨"CreditLinksModel", "decides", "(II)V"⟩, 28), (⟨"CreditLinksModel", "tells", "(I)I"⟩, 28), (⟨"CreditLinksModel", "drops", "()V"⟩, 28), (⟨"CreditLinksModel", "isSentAnew", "(I)Z"⟩, 28)]
theorem lw_r2 : ∀ q ∈ lw_privs_2, lw_okq q := List.forall_mem_cons.mpr ⟨lw_p16, List.forall_mem_cons.mpr ⟨lw_p17, List.forall_mem_cons.mpr ⟨lw_p18, List.forall_mem_cons.mpr ⟨lw_p19, List.forall_mem_cons.mpr ⟨lw_p20, List.forall_mem_cons.mpr ⟨lw_p21, List.forall_mem_cons.mpr ⟨lw_p22, List.forall_mem_cons.mpr ⟨lw_p23, List.forall_mem_cons.mpr ⟨lw_p24, List.forall_mem_cons.mpr ⟨lw_p25, fun _ h => absurd h List.not_mem_nil⟩⟩⟩⟩⟩⟩⟩⟩⟩⟩
def lw_privs : List (MethodName × Nat) := lw_privs_1 ++ (lw_privs_2)
def lw_tbl : List Cond := k2_sels lw_privs ++ tables_1
theorem lw_privs_ok : ∀ q ∈ lw_privs, lw_okq q := by
  show ∀ q ∈ lw_privs_1 ++ (lw_privs_2), lw_okq q
  exact List.forall_mem_append.mpr ⟨lw_r1, lw_r2⟩
end
section
/-! ===== BEGIN words of one list among another's, by their places ===== -/
theorem goodIn_r {big : List Cond} (ws : List Cond) (ps : List Nat) (hp : ws = ps.filterMap (fun i => big[i]?)) (h : ws.all goodWord = true) : GoodIn big ws := by
  intro w hw
  have h1 := List.all_eq_true.mp h w hw
  rw [hp] at hw
  obtain ⟨i, -, hi⟩ := List.mem_filterMap.mp hw
  have hm : w ∈ big := by first | exact List.mem_of_getElem? hi | exact List.getElem?_mem hi
  exact ⟨hm, good_of_word h1⟩
theorem goodIn_app {big a b : List Cond} (ha : GoodIn big a) (hb : GoodIn big b) : GoodIn big (a ++ b) := fun w h => (List.mem_append.mp h).elim (ha w) (hb w)
theorem goodIn_ca {big a b : List Cond} {c : Cond} (ha : GoodIn big (c :: a)) (hb : GoodIn big b) : GoodIn big (c :: (a ++ b)) := fun w h => (List.mem_cons.mp h).elim (fun e => ha w (List.mem_cons.mpr (Or.inl e))) (fun h => (List.mem_append.mp h).elim (fun h => ha w (List.mem_cons.mpr (Or.inr h))) (hb w))
theorem goodIn_sub {big ws : List Cond} (hm : ∀ w ∈ ws, w ∈ big) (h : ws.all goodWord = true) : GoodIn big ws := fun w hw => ⟨hm w hw, good_of_word (List.all_eq_true.mp h w hw)⟩
/-! ===== END ===== -/
/-! ===== BEGIN exceptions that leave a method, and their catching by the caller (launches without stack traces) ===== -/
section VXA
/-! The laws vx_back, vx_callV, vx_callS, vx_callSW, vx_throw0, vx_throwS follow proofs of the library, with one case more: JvmDerived/Free/Laws.lean (Back.of_free), Shelf42/LK1.lean (callV, callS), Shelf/KitTraced.lean (throwNew0V, throwNewS). -/
/-- where a method has thrown q: the class by its name, the cell, what was written, the world -/
def vx_T (XC : String → State → State → Prop) (st : State) (q : Addr) (t : State) (mc ms : Nat) (free : Addr → Prop) : Prop :=
  ∃ (E : String) (ce : Cell) (L : List Loc), XC E st t ∧ t.heap[q]? = some ce ∧ ce.vm = .none ∧ st.vm.findClass E = some ce.cls ∧ st.WarmedH t.vm ∧ st.sameButNew ({ t with vm := st.vm } : State) L mc ms ∧ ∀ z ∈ L, free z.base
def vx_Q (Qc : Array Value → State → Outcome → State → Prop) (XC : String → State → State → Prop) (mc ms : Nat) (free : Addr → Prop) : Array Value → State → Outcome → State → Prop := fun a st o t =>
  (Qc a st o t ∧ ∃ L, FrameEnd st o t L mc ms ∧ ∀ q ∈ L, free q.base) ∨ ∃ q, o = .threw q ∧ vx_T XC st q t mc ms free
/-- a callee that returns or throws -/
def vx_Met (l : Launch) (y : MethodName) (ws : List Cond) (rm : Room) (Pc : Array Value → State → Prop) (Qc : Array Value → State → Outcome → State → Prop) (XC : String → State → State → Prop) (mc ms : Nat) (free : Addr → Prop) : Prop :=
  MetFree l y (headSpec ws rm) Pc (fun _ _ _ _ _ => True) (vx_Q Qc XC mc ms free)
def vx_Post (XC : String → State → State → Prop) (mc ms : Nat) (free : Addr → Prop) : Pt → Array Value → Addr → Pt → Prop := fun A a q B =>
  ∃ (g : JFrame) (mk : MethodId) (t : State) (L : List Loc) (E : String) (ce : Cell), B.U.heap = t.heap ∧ B.U.vm = t.vm ∧ XC E (A.U.calling g mk a) t ∧ t.heap[q]? = some ce ∧ ce.vm = .none ∧ A.U.vm.findClass E = some ce.cls ∧ B.locs = A.locs ++ L ∧ (∀ z ∈ L, free z.base) ∧ B.cells = A.cells + mc ∧ B.slots = A.slots + ms
def vx_Back (l : Launch) (R : Room) (p : Program) (e : Env) (below : List Frame) (s : State) (sargs : Array Value) (y : MethodName) (len W9 : Nat)
    (Pre : Pt → Array Value → Prop) (Post : Pt → Array Value → Option Value → Pt → Prop) (PostX : Pt → Array Value → Addr → Pt → Prop) : Prop :=
  ∀ (m : MethodId) (meth : Method) (c : Code) (A : Pt) (g : JFrame) (ig : Instr) (mk : MethodId) (a : Array Value),
    Stand p l e R s m sargs below meth c A.U A.locs A.cells A.slots → g.method = m → g.locals.size = c.maxLocals → decode c.code g.pc = .ok (ig, len) →
    2 * g.monitorRoom + (g.stack.map fun v => v.category).sum ≤ W9 → A.U.methodNamed? y = some mk → Pre A a →
    (∃ (v : Option Value) (B : Pt), Stand p l e R s m sargs below meth c B.U B.locs B.cells B.slots ∧ Post A a v B ∧
      Steps p.tables e below (doInvoke e (A.U.setTop g) [] mk a).1 (B.U.setTop { g with pc := g.pc + len, stack := v.toList ++ g.stack })) ∨
    (∃ (q : Addr) (B : Pt), Stand p l e R s m sargs below meth c B.U B.locs B.cells B.slots ∧ PostX A a q B ∧
      Steps p.tables e below (doInvoke e (A.U.setTop g) [] mk a).1 ((B.U.setTop g).pushFrame (.throwing q)))
section Payer
variable {l : Launch} {R : Room} {p : Program} {e : Env} {below : List Frame} {s : State} {sargs : Array Value} {y : MethodName} {len W9 : Nat}
theorem vx_back {ws : List Cond} {rm : Room} {Pc : Array Value → State → Prop} {Qc : Array Value → State → Outcome → State → Prop} {XC : String → State → State → Prop} {mc ms : Nat} {free : Addr → Prop} {bytes : ByteArray} {maxL : Nat} {ret : Option FieldType}
    (hM : vx_Met l y ws rm Pc Qc XC mc ms free) (hblind : FrameBlind Pc) (hrc : rm.cells = mc) (hrs : rm.slots = ms)
    (hframes : rm.frames + 1 ≤ R.frames) (hlocals : W9 + (maxL + 11) + rm.locals ≤ R.locals)
    (hws : ∀ w ∈ ws, ∀ a' U, s.WarmedH U.vm → w.before a' U = true) (hcode : Cond.code y bytes maxL ret ∈ ws) (hinit : ∀ a' U, s.WarmedH U.vm → (Cond.initialized y.cls).before a' U = true) :
    vx_Back l R p e below s sargs y len W9 (PreOf R mc ms Pc) (PostOf Qc mc ms free) (vx_Post XC mc ms free) := by
  intro m meth c A g ig mk a X hg hsize hdg hW hn hp
  have h1 : (headSpec ws rm).pre.before a A.U = true := atoms_intro fun w hw => hws w hw _ _ X.warmed
  have h2 : (Cond.code y bytes maxL ret).before a A.U = true := hws _ hcode _ _ X.warmed
  have h3 : (Cond.initialized y.cls).before a A.U = true := hinit _ _ X.warmed
  have h4 : A.cells + (headSpec ws rm).room.cells ≤ R.cells := by rw [show (headSpec ws rm).room.cells = mc from hrc]; exact hp.1
  have h5 : A.slots + (headSpec ws rm).room.slots ≤ R.slots := by rw [show (headSpec ws rm).room.slots = ms from hrs]; exact hp.2.1
  have hPc : Pc a (A.U.calling g mk a) := hblind _ _ _ _ hp.2.2
  obtain ⟨U, Ls, c0, s0⟩ := A
  dsimp only [Pt.U, Pt.locs, Pt.cells, Pt.slots] at h1 h2 h3 h4 h5 X hn hPc ⊢
  obtain ⟨methY, cY, hmY, hcY, -, hlY, -, -, -, -⟩ := Cond.code_spec hn h2
  obtain ⟨kY, hkY, -⟩ := className_of_methodNamed hn
  have hinitY : kY.init = .initialized := Cond.initialized_spec (findClass_of_methodNamed hn) hkY h3
  have h : At U g.method c below := by rw [hg]; exact X.here
  have hlocals9 : W9 + (maxL + 11) + (headSpec ws rm).room.locals ≤ R.locals := hlocals
  have happ : (headSpec ws rm).appliesLoose y e.platform (U.calling g mk a) = true :=
    Spec.appliesLoose_calling (g := g) h hdg hn hkY hinitY
      (X.room_calling (g := g) (R' := (headSpec ws rm).room) hsize hmY hcY hframes (by rw [hlY]; omega) h4 h5) h1
  obtain ⟨mid, hmid⟩ := h.above
  have hfr : (U.setTop g).frames = (.java g :: mid) ++ below := by rw [State.frames_setTop' g h.top, hmid]; rfl
  obtain ⟨o, s₂, hsteps, -, hend, hq⟩ := Steps.callFree hM p X.admits X.cas X.clock (acts := []) hfr happ hPc trivial
  have hq' : vx_Q Qc XC mc ms free a (U.calling g mk a) o s₂ := hq
  rw [State.frames_setTop' g h.top] at hend
  obtain ⟨g₀, hg0⟩ := Option.isSome_iff_exists.mp h.top
  obtain ⟨r, hr⟩ := State.topJava?_eq_some.mp hg0
  have hr' : (({ U with heap := s₂.heap, slotsUsed := s₂.slotsUsed } : State).setVm s₂.vm).frames = .java g₀ :: r := hr
  rcases hq' with ⟨hqc, L, hfe, hL⟩ | ⟨q, rfl, E, ce, L, hx, hce, hcv, hcl, hW₂, hsm, hL⟩
  · obtain ⟨⟨v, rfl⟩, hW₂, e2, q2, q3, q4, q5, q6⟩ := id hfe
    have e3 : s₂ = ({ (U.calling g mk a).setFrames s₂.frames with heap := s₂.heap, slotsUsed := s₂.slotsUsed } : State).setVm s₂.vm := by
      have : s₂ = ({ s₂ with vm := (U.calling g mk a).vm } : State).setVm s₂.vm := rfl
      rw [e2] at this
      exact this
    obtain ⟨c₂, i₂, len₂, hc₂, hd₂, hf₂⟩ := hend
    have hW' : U.WarmedH s₂.vm := hW₂
    have hcc : c₂ = c := by
      have h1 : s₂.code? g.method = U.code? g.method := by
        rw [State.code?_eq, State.code?_eq, hW'.alike.method?]
      exact Option.some.inj (hc₂.symm.trans (h1.trans h.code))
    subst hcc
    have hlen : len₂ = len := by rw [hdg] at hd₂; cases hd₂; rfl
    subst hlen
    have hs₂ : s₂ = (({ U with heap := s₂.heap, slotsUsed := s₂.slotsUsed } : State).setVm s₂.vm).setTop { g with pc := g.pc + len₂, stack := v.toList ++ g.stack } := by
      refine e3.trans ?_
      rw [hf₂, State.calling_eq h.top, State.setFrames_setFrames, State.setTop_of_frames _ hr', hr]
      rfl
    have hsame : U.sameButNew ({ U with heap := s₂.heap, slotsUsed := s₂.slotsUsed } : State) L mc ms := by
      refine ⟨?_, q2, q3, q4, q5, q6⟩
      obtain ⟨t, ht, -⟩ := State.frames_cons hr
      show ({ U with heap := s₂.heap, slotsUsed := s₂.slotsUsed } : State) = { U.setFrames U.frames with heap := s₂.heap, slotsUsed := s₂.slotsUsed }
      rw [State.setFrames_self ht]
    subst hg
    refine Or.inl ⟨v, ⟨(({ U with heap := s₂.heap, slotsUsed := s₂.slotsUsed } : State).setVm s₂.vm), Ls ++ L, c0 + mc, s0 + ms⟩,
      ⟨X.admits, X.cas, X.clock, X.frames, X.room, X.hears, X.method, X.code, (X.here.setHeapUsed s₂.heap s₂.slotsUsed).setVm hW'.alike, X.tail, State.WarmedH.trans X.warmed hW', X.limits, X.bytes, X.same.trans (hsame.setVm s.vm)⟩,
      ⟨g, mk, s₂, L, rfl, rfl, hqc, rfl, hL, rfl, rfl⟩, ?_⟩
    show Steps p.tables e below _ ((({ U with heap := s₂.heap, slotsUsed := s₂.slotsUsed } : State).setVm s₂.vm).setTop { g with pc := g.pc + len₂, stack := v.toList ++ g.stack })
    rw [← hs₂]
    exact hsteps
  · obtain ⟨e2, q2, q3, q4, q5, q6⟩ := id hsm
    have e3 : s₂ = ({ (U.calling g mk a).setFrames s₂.frames with heap := s₂.heap, slotsUsed := s₂.slotsUsed } : State).setVm s₂.vm := by
      have : s₂ = ({ s₂ with vm := (U.calling g mk a).vm } : State).setVm s₂.vm := rfl
      rw [e2] at this
      exact this
    have hf₂ : s₂.frames = .throwing q :: .java g :: U.frames.tail := hend
    have hW' : U.WarmedH s₂.vm := hW₂
    have hs₂ : s₂ = ((({ U with heap := s₂.heap, slotsUsed := s₂.slotsUsed } : State).setVm s₂.vm).setTop g).pushFrame (.throwing q) := by
      refine e3.trans ?_
      rw [hf₂, State.calling_eq h.top, State.setFrames_setFrames, State.pushFrame, State.frames_setTop _ hr', State.setTop_of_frames _ hr', State.setFrames_setFrames, hr]
      rfl
    have hsame : U.sameButNew ({ U with heap := s₂.heap, slotsUsed := s₂.slotsUsed } : State) L mc ms := by
      refine ⟨?_, q2, q3, q4, q5, q6⟩
      obtain ⟨t, ht, -⟩ := State.frames_cons hr
      show ({ U with heap := s₂.heap, slotsUsed := s₂.slotsUsed } : State) = { U.setFrames U.frames with heap := s₂.heap, slotsUsed := s₂.slotsUsed }
      rw [State.setFrames_self ht]
    subst hg
    refine Or.inr ⟨q, ⟨(({ U with heap := s₂.heap, slotsUsed := s₂.slotsUsed } : State).setVm s₂.vm), Ls ++ L, c0 + mc, s0 + ms⟩,
      ⟨X.admits, X.cas, X.clock, X.frames, X.room, X.hears, X.method, X.code, (X.here.setHeapUsed s₂.heap s₂.slotsUsed).setVm hW'.alike, X.tail, State.WarmedH.trans X.warmed hW', X.limits, X.bytes, X.same.trans (hsame.setVm s.vm)⟩,
      ⟨g, mk, s₂, L, E, ce, rfl, rfl, hx, hce, hcv, hcl, rfl, hL, rfl, rfl⟩, ?_⟩
    show Steps p.tables e below _ (((({ U with heap := s₂.heap, slotsUsed := s₂.slotsUsed } : State).setVm s₂.vm).setTop g).pushFrame (.throwing q))
    rw [← hs₂]
    exact hsteps
end Payer
section Calls
variable {p : Program} {l : Launch} {e : Env} {R : Room} {s : State} {m : MethodId} {args : Array Value} {below : List Frame} {meth : Method} {c : Code} {T : State} {locs : List Loc} {cells slots : Nat}
theorem vx_callV (X : Stand p l e R s m args below meth c T locs cells slots) (hexec : p.tables.exec = Jvm.exec) {own C : String} {index : Nat} {y : MethodName} {bytes : ByteArray} {maxL : Nat} {ret : Option FieldType}
    (hown : s.vm.findClass own = some m.cls) (hlink : (Cond.methodLink own index y).before args s = true) (hinst : (Cond.instanceMethod y).before args s = true) (hsel : (Cond.selects C y y).before args s = true)
    (hcode : (Cond.code y bytes maxL ret).before args s = true) (hy : y.cls ≠ "java/lang/invoke/MethodHandle" ∧ y.cls ≠ "java/lang/invoke/VarHandle")
    {W9 : Nat} {Pre : Pt → Array Value → Prop} {Post : Pt → Array Value → Option Value → Pt → Prop} {PostX : Pt → Array Value → Addr → Pt → Prop} (hK : vx_Back l R p e below s args y 3 W9 Pre Post PostX)
    {b : Addr} {cellB : Cell} (hcell : T.heap[b]? = some cellB) (hobj : cellB.vm.isStatics = false) (hcls : s.vm.findClass C = some cellB.cls)
    {g : JFrame} (hg : g.method = m) (hsize : g.locals.size = c.maxLocals) {argsL rest : List Value} (hlen : ∀ sig, parseMethodDescriptor y.desc = some sig → argsL.length = sig.parameters.length)
    (hstack : g.stack = argsL.reverse ++ .ref b :: rest) (hW : 2 * g.monitorRoom + (rest.map fun v => v.category).sum ≤ W9) (hdg : decode c.code g.pc = .ok (.invokevirtual index, 3))
    (hpre : ∀ vm₁, s.WarmedH vm₁ → Pre ⟨T.setVm vm₁, locs, cells, slots⟩ (Value.ref b :: argsL).toArray) :
    (∃ (v : Option Value) (vm₁ : Vm) (B : Pt), s.WarmedH vm₁ ∧ Stand p l e R s m args below meth c B.U B.locs B.cells B.slots ∧ Post ⟨T.setVm vm₁, locs, cells, slots⟩ (Value.ref b :: argsL).toArray v B ∧
      ∀ target, Steps p.tables e below (B.U.setTop { g with pc := g.pc + 3, stack := v.toList ++ rest }) target → Steps p.tables e below (T.setTop g) target) ∨
    (∃ (q : Addr) (vm₁ : Vm) (B : Pt), s.WarmedH vm₁ ∧ Stand p l e R s m args below meth c B.U B.locs B.cells B.slots ∧ PostX ⟨T.setVm vm₁, locs, cells, slots⟩ (Value.ref b :: argsL).toArray q B ∧
      Steps p.tables e below (T.setTop g) ((B.U.setTop { g with stack := rest }).pushFrame (.throwing q))) := by
  obtain ⟨mk, methM, hnamed, hmethM, hstM, habM⟩ := Cond.instanceMethod_spec hinst
  obtain ⟨methM', cM, hmethM', -, -, -, -, -, -, hsigM⟩ := Cond.code_spec hnamed hcode
  cases hmethM.symm.trans hmethM'
  obtain ⟨c2, r2, m2, q1, q2, q3, q4, kP, hkP, hkPi⟩ := Cond.selects_spec hsel
  cases hcls.symm.trans q1
  cases (State.methodFound?_of_named hnamed hy).symm.trans q2
  cases hnamed.symm.trans q3
  have hselP : selectMethod e.platform s.vm cellB.cls mk = .method mk := by rw [Launch.admits_selectMethod X.admits]; exact q4
  obtain ⟨vm₁, X₁, hstep₁⟩ := X.invokevirtual hexec hown hlink hnamed hmethM hstM hkP hkPi hy (a := b) (cell := cellB) hcell
    (fun z h => by rw [h] at hobj; cases hobj) hselP hmethM habM hkP hkPi (g := g) hg (argsL := argsL) (rest := rest) (hlen _ hsigM) hstack hdg
  rcases hK m meth c ⟨T.setVm vm₁, locs, cells, slots⟩ { g with stack := rest } (.invokevirtual index) mk (Value.ref b :: argsL).toArray X₁ hg hsize hdg hW (X₁.named hnamed) (hpre vm₁ X₁.warmed) with ⟨v, B, X', hpost, hsteps⟩ | ⟨q, B, X', hpost, hsteps⟩
  · exact Or.inl ⟨v, vm₁, B, X₁.warmed, X', hpost, fun target h => hstep₁ _ fun acts => by rw [doInvoke_state]; exact hsteps.trans h⟩
  · exact Or.inr ⟨q, vm₁, B, X₁.warmed, X', hpost, hstep₁ _ fun acts => by rw [doInvoke_state]; exact hsteps⟩
theorem vx_callS (X : Stand p l e R s m args below meth c T locs cells slots) (hexec : p.tables.exec = Jvm.exec) {own : String} {index : Nat} {y : MethodName} {bytes : ByteArray} {maxL : Nat} {ret : Option FieldType}
    (hown : s.vm.findClass own = some m.cls) (hlink : (Cond.methodLink own index y).before args s = true) (hstat : (Cond.static y).before args s = true) (hinit : (Cond.initialized y.cls).before args s = true)
    (hcode : (Cond.code y bytes maxL ret).before args s = true) (hy : y.cls ≠ "java/lang/invoke/MethodHandle" ∧ y.cls ≠ "java/lang/invoke/VarHandle")
    {W9 : Nat} {Pre : Pt → Array Value → Prop} {Post : Pt → Array Value → Option Value → Pt → Prop} {PostX : Pt → Array Value → Addr → Pt → Prop} (hK : vx_Back l R p e below s args y 3 W9 Pre Post PostX)
    {g : JFrame} (hg : g.method = m) (hsize : g.locals.size = c.maxLocals) {argsL rest : List Value} (hlen : ∀ sig, parseMethodDescriptor y.desc = some sig → argsL.length = sig.parameters.length)
    (hstack : g.stack = argsL.reverse ++ rest) (hW : 2 * g.monitorRoom + (rest.map fun v => v.category).sum ≤ W9) (hdg : decode c.code g.pc = .ok (.invokestatic index, 3))
    (hpre : ∀ vm₁, s.WarmedH vm₁ → Pre ⟨T.setVm vm₁, locs, cells, slots⟩ argsL.toArray) :
    (∃ (v : Option Value) (vm₁ : Vm) (B : Pt), s.WarmedH vm₁ ∧ Stand p l e R s m args below meth c B.U B.locs B.cells B.slots ∧ Post ⟨T.setVm vm₁, locs, cells, slots⟩ argsL.toArray v B ∧
      ∀ target, Steps p.tables e below (B.U.setTop { g with pc := g.pc + 3, stack := v.toList ++ rest }) target → Steps p.tables e below (T.setTop g) target) ∨
    (∃ (q : Addr) (vm₁ : Vm) (B : Pt), s.WarmedH vm₁ ∧ Stand p l e R s m args below meth c B.U B.locs B.cells B.slots ∧ PostX ⟨T.setVm vm₁, locs, cells, slots⟩ argsL.toArray q B ∧
      Steps p.tables e below (T.setTop g) ((B.U.setTop { g with stack := rest }).pushFrame (.throwing q))) := by
  obtain ⟨mk, hnamed⟩ := Cond.code_named hcode
  obtain ⟨methM, cM, hmethM, -, -, -, -, -, -, hsigM⟩ := Cond.code_spec hnamed hcode
  have hstatic : methM.isStatic = true := Cond.static_spec hnamed hmethM hstat
  obtain ⟨kP, hkP, -⟩ := className_of_methodNamed hnamed
  have hinitP : kP.init = .initialized := Cond.initialized_spec (findClass_of_methodNamed hnamed) hkP hinit
  obtain ⟨vm₁, X₁, hstep₁⟩ := X.invokestatic hexec hown hlink hnamed hmethM hstatic hkP hinitP hy (g := g) hg (argsL := argsL) (rest := rest) (hlen _ hsigM) hstack hdg
  rcases hK m meth c ⟨T.setVm vm₁, locs, cells, slots⟩ { g with stack := rest } (.invokestatic index) mk argsL.toArray X₁ hg hsize hdg hW (X₁.named hnamed) (hpre vm₁ X₁.warmed) with ⟨v, B, X', hpost, hsteps⟩ | ⟨q, B, X', hpost, hsteps⟩
  · exact Or.inl ⟨v, vm₁, B, X₁.warmed, X', hpost, fun target h => hstep₁ _ fun acts => by rw [doInvoke_state]; exact hsteps.trans h⟩
  · exact Or.inr ⟨q, vm₁, B, X₁.warmed, X', hpost, hstep₁ _ fun acts => by rw [doInvoke_state]; exact hsteps⟩
end Calls
theorem vx_cls {s : State} {T : State} {vm₁ : Vm} {E : String} {k : ClassId} (hW : s.WarmedH vm₁) (h : (T.setVm vm₁).vm.findClass E = some k) : s.vm.findClass E = some k := by
  have h1 : vm₁.findClass E = some k := h
  rw [hW.alike.findClass] at h1
  exact h1
/-- the method's frame g, with q thrown over it -/
def vx_W (p : Program) (l : Launch) (e : Env) (R : Room) (s : State) (m : MethodId) (args : Array Value) (below : List Frame) (meth : Method) (c : Code) (H : Heap) (locs : List Loc) (cells slots : Nat) (Q : State → Prop) (g : JFrame) (q : Addr) : Prop :=
  ∀ T : State, T.heap = H → Stand p l e R s m args below meth c T locs cells slots → ∃ t, Steps p.tables e below ((T.setTop g).pushFrame (.throwing q)) t ∧ Q t
def vx_Run (p : Program) (l : Launch) (e : Env) (R : Room) (s : State) (m : MethodId) (args : Array Value) (below : List Frame) (meth : Method) (c : Code) (H : Heap) (locs : List Loc) (cells slots mc ms : Nat) (g : JFrame) (rest : List Value) (Qa : State → Outcome → State → Prop) (XC : String → State → State → Prop) (free : Addr → Prop) : Prop :=
  ∀ T : State, T.heap = H → Stand p l e R s m args below meth c T locs cells slots →
    (∃ (v : Option Value) (st₀ t T' : State) (L : List Loc), st₀.heap = H ∧ Stand p l e R s m args below meth c T' (locs ++ L) (cells + mc) (slots + ms) ∧ (∀ q ∈ L, free q.base) ∧ T'.heap = t.heap ∧ T'.vm = t.vm ∧ Qa st₀ (.returned v) t ∧
      Goes p e below T g T' { g with pc := g.pc + 3, stack := v.toList ++ rest }) ∨
    (∃ (q : Addr) (st₀ t T' : State) (L : List Loc) (E : String) (ce : Cell), st₀.heap = H ∧ Stand p l e R s m args below meth c T' (locs ++ L) (cells + mc) (slots + ms) ∧ (∀ z ∈ L, free z.base) ∧ T'.heap = t.heap ∧ T'.vm = t.vm ∧ XC E st₀ t ∧ t.heap[q]? = some ce ∧ ce.vm = .none ∧ s.vm.findClass E = some ce.cls ∧
      Steps p.tables e below (T.setTop g) ((T'.setTop { g with stack := rest }).pushFrame (.throwing q)))
def vx_X {S : Type} (px : S → Prop) (B : String → S → State → Prop) (A : Nat → Prop) : String → State → State → Prop := fun E st t => ∃ u : S, px u ∧ B E u t ∧ va_F A st t
section Runs
variable {p : Program} {l : Launch} {e : Env} {R : Room} {s : State} {m : MethodId} {args : Array Value} {below : List Frame} {meth : Method} {c : Code} {H : Heap} {locs : List Loc} {cells slots : Nat}
variable {y : MethodName} {bytes cc : ByteArray} {maxL nL mc ms n index : Nat} {ret : Option FieldType} {ws : List Cond} {rm : Room} {Pc : Array Value → State → Prop} {Qc : Array Value → State → Outcome → State → Prop} {XC : String → State → State → Prop} {free : Addr → Prop} {Ts : List Cond} {own C : String} {b : Addr} {As rest : List Value} {g : JFrame}
theorem vx_callBack (cb : CallB R s args own index y bytes maxL ret ws rm mc ms n) (hM : vx_Met l y ws rm Pc Qc XC mc ms free) (hbl : FrameBlind Pc) : vx_Back l R p e below s args y 3 8 (PreOf R mc ms Pc) (PostOf Qc mc ms free) (vx_Post XC mc ms free) := by
  obtain ⟨hrc, hrs, hfr, hlo, hws, hcw, -, hini, -⟩ := cb
  exact vx_back (bytes := bytes) (maxL := maxL) (ret := ret) hM hbl hrc hrs hfr hlo hws hcw (fun a' U hW => word_at hW (Or.inl (by first | rfl | simp [Cond.onTables, Cond.keeps, Cond.steady])) hini)
theorem vx_runV (S : CallFix p m c cc nL s args Ts own) (hM : vx_Met l y ws rm Pc Qc XC mc ms free) (cw : CallW R s args own C index y bytes maxL ret ws rm mc ms n) (hp : PreV s H C b Pc As)
    (hg : g.method = m) (hn : As.length = n) (hsize : g.locals.size = nL) (hstack : g.stack = As.reverse ++ .ref b :: rest) (hW : 2 * g.monitorRoom + (rest.map fun v => v.category).sum ≤ 8) (hdg : decode cc g.pc = .ok (.invokevirtual index, 3)) (hf : cells + mc ≤ R.cells ∧ slots + ms ≤ R.slots) :
    vx_Run p l e R s m args below meth c H locs cells slots mc ms g rest (Qc (Value.ref b :: As).toArray) XC free := by
  have hK : vx_Back l R p e below s args y 3 8 (PreOf R mc ms Pc) (PostOf Qc mc ms free) (vx_Post XC mc ms free) := vx_callBack cw.1 hM hp.1
  obtain ⟨⟨-, -, -, -, -, -, hcode, -, hy, hlen, hl⟩, hin, hse⟩ := cw
  obtain ⟨hx, hb, hml, ho, -⟩ := S
  obtain ⟨-, ⟨cellB, hcB, hoB, hclB⟩, hPc⟩ := hp
  intro T hT X
  rcases vx_callV X hx (C := C) (bytes := bytes) (maxL := maxL) (ret := ret) ho hl hin hse hcode hy hK (by rw [hT]; exact hcB) hoB hclB hg (hsize.trans hml.symm) (argsL := As) (rest := rest) (fun sig h => hn.trans (hlen sig h)) hstack hW (by rw [hb]; exact hdg)
    (fun vm₁ hW₁ => ⟨hf.1, hf.2, hPc (T.setVm vm₁) hT hW₁⟩) with ⟨v, vm₁, ⟨U', l2, c2, s2⟩, hW₁, X', ⟨g', mk, t, L, e1, e2, hq, h1, hL, h2, h3⟩, st⟩ | ⟨q, vm₁, ⟨U', l2, c2, s2⟩, hW₁, X', ⟨g', mk, t, L, E, ce, e1, e2, hq, hce, hcv, hcl, h1, hL, h2, h3⟩, st⟩
  · dsimp only [Pt.U, Pt.locs, Pt.cells, Pt.slots] at X' e1 e2 h1 h2 h3 st
    subst h1; subst h2; subst h3
    exact Or.inl ⟨v, (T.setVm vm₁).calling g' mk (Value.ref b :: As).toArray, t, U', L, hT, X', hL, e1, e2, hq, st⟩
  · dsimp only [Pt.U, Pt.locs, Pt.cells, Pt.slots] at X' e1 e2 h1 h2 h3 st hcl
    subst h1; subst h2; subst h3
    exact Or.inr ⟨q, (T.setVm vm₁).calling g' mk (Value.ref b :: As).toArray, t, U', L, E, ce, hT, X', hL, e1, e2, hq, hce, hcv, vx_cls hW₁ hcl, st⟩
theorem vx_runS (S : CallFix p m c cc nL s args Ts own) (hM : vx_Met l y ws rm Pc Qc XC mc ms free) (cw : CallB R s args own index y bytes maxL ret ws rm mc ms n ∧ (Cond.static y).before args s = true) (hp : PreS s H Pc As)
    (hg : g.method = m) (hn : As.length = n) (hsize : g.locals.size = nL) (hstack : g.stack = As.reverse ++ rest) (hW : 2 * g.monitorRoom + (rest.map fun v => v.category).sum ≤ 8) (hdg : decode cc g.pc = .ok (.invokestatic index, 3)) (hf : cells + mc ≤ R.cells ∧ slots + ms ≤ R.slots) :
    vx_Run p l e R s m args below meth c H locs cells slots mc ms g rest (Qc As.toArray) XC free := by
  have hK : vx_Back l R p e below s args y 3 8 (PreOf R mc ms Pc) (PostOf Qc mc ms free) (vx_Post XC mc ms free) := vx_callBack cw.1 hM hp.1
  obtain ⟨⟨-, -, -, -, -, -, hcode, hini, hy, hlen, hl⟩, hstt⟩ := cw
  obtain ⟨hx, hb, hml, ho, -⟩ := S
  intro T hT X
  rcases vx_callS X hx (bytes := bytes) (maxL := maxL) (ret := ret) ho hl hstt hini hcode hy hK hg (hsize.trans hml.symm) (argsL := As) (rest := rest) (fun sig h => hn.trans (hlen sig h)) hstack hW (by rw [hb]; exact hdg)
    (fun vm₁ hW₁ => ⟨hf.1, hf.2, hp.2 (T.setVm vm₁) hT hW₁⟩) with ⟨v, vm₁, ⟨U', l2, c2, s2⟩, hW₁, X', ⟨g', mk, t, L, e1, e2, hq, h1, hL, h2, h3⟩, st⟩ | ⟨q, vm₁, ⟨U', l2, c2, s2⟩, hW₁, X', ⟨g', mk, t, L, E, ce, e1, e2, hq, hce, hcv, hcl, h1, hL, h2, h3⟩, st⟩
  · dsimp only [Pt.U, Pt.locs, Pt.cells, Pt.slots] at X' e1 e2 h1 h2 h3 st
    subst h1; subst h2; subst h3
    exact Or.inl ⟨v, (T.setVm vm₁).calling g' mk As.toArray, t, U', L, hT, X', hL, e1, e2, hq, st⟩
  · dsimp only [Pt.U, Pt.locs, Pt.cells, Pt.slots] at X' e1 e2 h1 h2 h3 st hcl
    subst h1; subst h2; subst h3
    exact Or.inr ⟨q, (T.setVm vm₁).calling g' mk As.toArray, t, U', L, E, ce, hT, X', hL, e1, e2, hq, hce, hcv, vx_cls hW₁ hcl, st⟩
end Runs
section Rows
variable {p : Program} {l : Launch} {e : Env} {R : Room} {s : State} {m : MethodId} {args : Array Value} {below : List Frame} {meth : Method} {c : Code} {H : Heap} {locs : List Loc} {cells slots : Nat} {Q : State → Prop}
variable {mc ms : Nat} {free : Addr → Prop} {A0 A1 : Nat → Prop} {H0 : Heap} {a : Array Value} {pc : Nat} {ls : Array Slot} {st0 rest : List Value}
theorem vx_keep {st₀ t T' : State} {L : List Loc} (h0 : st₀.heap = H) (e1 : T'.heap = t.heap) (hS : va_S A0 H0 H locs) (hA : ∀ q, q < H.size → A1 q → A0 q) (hf : ∀ q, free q → A0 q) (hL : ∀ q ∈ L, free q.base) (hF : va_F A1 st₀ t) :
    H.size ≤ T'.heap.size ∧ (∀ q : Nat, q < H.size → ¬ A1 q → T'.heap[q]? = H[q]?) ∧ va_S A0 H0 T'.heap (locs ++ L) := by
  obtain ⟨hz, hk⟩ := hF
  rw [h0] at hz hk
  exact ⟨by rw [e1]; exact hz, fun q h1 h2 => by rw [e1]; exact hk q h1 h2,
    ⟨Nat.le_trans hS.1 (by rw [e1]; exact hz), fun q h1 h2 => by rw [e1, hk q (Nat.lt_of_lt_of_le h1 hS.1) (fun z => h2 (hA q (Nat.lt_of_lt_of_le h1 hS.1) z))]; exact hS.2.1 q h1 h2, fun q hq => by
      rcases List.mem_append.mp hq with h | h
      · exact hS.2.2 q h
      · exact hf _ (hL q h)⟩⟩
theorem vx_calli {S SX : Type} {post : Int32 → S → Prop} {px : SX → Prop} {B : S → State → Prop} {BX : String → SX → State → Prop} {AX : Nat → Prop} (hr : vx_Run p l e R s m args below meth c H locs cells slots mc ms (F0 m pc ls st0) rest (va_Qi post B A1 a) (vx_X px BX AX) free) (hS : va_S A0 H0 H locs) (hA : ∀ q, q < H.size → A1 q → A0 q) (hf : ∀ q, free q → A0 q) (hAX : ∀ q, q < H.size → AX q → A0 q)
    (kx : ∀ (E : String) (ce : Cell) (q9 : Addr) (u : SX) (t : State) (H1 : Heap) (locs1 : List Loc), t.heap = H1 → s.vm.Alike t.vm → px u → BX E u t → H.size ≤ H1.size → (∀ q : Nat, q < H.size → ¬ AX q → H1[q]? = H[q]?) → va_S A0 H0 H1 locs1 → H1[q9]? = some ce → ce.vm = .none → s.vm.findClass E = some ce.cls → vx_W p l e R s m args below meth c H1 locs1 (cells + mc) (slots + ms) Q (F0 m pc ls rest) q9)
    (kk : ∀ (r : Int32) (u : S) (t : State) (H1 : Heap) (locs1 : List Loc), t.heap = H1 → s.vm.Alike t.vm → post r u → B u t → H.size ≤ H1.size → (∀ q : Nat, q < H.size → ¬ A1 q → H1[q]? = H[q]?) → va_S A0 H0 H1 locs1 → W p l e R s m args below meth c H1 locs1 (cells + mc) (slots + ms) Q (F0 m (pc + 3) ls (.int r :: rest))) : W p l e R s m args below meth c H locs cells slots Q (F0 m pc ls st0) := by
  intro T hT X
  rcases hr T hT X with ⟨v, st₀, t, T', L, h0, X', hL, e1, e2, ⟨⟨r, u, hv, hp, hb⟩, hF⟩, st⟩ | ⟨q, st₀, t, T', L, E, ce, h0, X', hL, e1, e2, ⟨u, hp, hb, hF⟩, hce, hcv, hcl, st⟩
  · cases hv
    obtain ⟨k1, k2, k3⟩ := vx_keep h0 e1 hS hA hf hL hF
    obtain ⟨t2, a1, b1⟩ := kk r u t T'.heap (locs ++ L) e1.symm (by rw [← e2]; exact X'.warmed.alike) hp hb k1 k2 k3 T' rfl X'
    exact ⟨t2, st t2 a1, b1⟩
  · obtain ⟨k1, k2, k3⟩ := vx_keep h0 e1 hS hAX hf hL hF
    obtain ⟨t2, a1, b1⟩ := kx E ce q u t T'.heap (locs ++ L) e1.symm (by rw [← e2]; exact X'.warmed.alike) hp hb k1 k2 k3 (by rw [e1]; exact hce) hcv hcl T' rfl X'
    exact ⟨t2, st.trans a1, b1⟩
theorem vx_calll {S SX : Type} {post : Int64 → S → Prop} {px : SX → Prop} {B : S → State → Prop} {BX : String → SX → State → Prop} {AX : Nat → Prop} (hr : vx_Run p l e R s m args below meth c H locs cells slots mc ms (F0 m pc ls st0) rest (va_Ql post B A1 a) (vx_X px BX AX) free) (hS : va_S A0 H0 H locs) (hA : ∀ q, q < H.size → A1 q → A0 q) (hf : ∀ q, free q → A0 q) (hAX : ∀ q, q < H.size → AX q → A0 q)
    (kx : ∀ (E : String) (ce : Cell) (q9 : Addr) (u : SX) (t : State) (H1 : Heap) (locs1 : List Loc), t.heap = H1 → s.vm.Alike t.vm → px u → BX E u t → H.size ≤ H1.size → (∀ q : Nat, q < H.size → ¬ AX q → H1[q]? = H[q]?) → va_S A0 H0 H1 locs1 → H1[q9]? = some ce → ce.vm = .none → s.vm.findClass E = some ce.cls → vx_W p l e R s m args below meth c H1 locs1 (cells + mc) (slots + ms) Q (F0 m pc ls rest) q9)
    (kk : ∀ (r : Int64) (u : S) (t : State) (H1 : Heap) (locs1 : List Loc), t.heap = H1 → s.vm.Alike t.vm → post r u → B u t → H.size ≤ H1.size → (∀ q : Nat, q < H.size → ¬ A1 q → H1[q]? = H[q]?) → va_S A0 H0 H1 locs1 → W p l e R s m args below meth c H1 locs1 (cells + mc) (slots + ms) Q (F0 m (pc + 3) ls (.long r :: rest))) : W p l e R s m args below meth c H locs cells slots Q (F0 m pc ls st0) := by
  intro T hT X
  rcases hr T hT X with ⟨v, st₀, t, T', L, h0, X', hL, e1, e2, ⟨⟨r, u, hv, hp, hb⟩, hF⟩, st⟩ | ⟨q, st₀, t, T', L, E, ce, h0, X', hL, e1, e2, ⟨u, hp, hb, hF⟩, hce, hcv, hcl, st⟩
  · cases hv
    obtain ⟨k1, k2, k3⟩ := vx_keep h0 e1 hS hA hf hL hF
    obtain ⟨t2, a1, b1⟩ := kk r u t T'.heap (locs ++ L) e1.symm (by rw [← e2]; exact X'.warmed.alike) hp hb k1 k2 k3 T' rfl X'
    exact ⟨t2, st t2 a1, b1⟩
  · obtain ⟨k1, k2, k3⟩ := vx_keep h0 e1 hS hAX hf hL hF
    obtain ⟨t2, a1, b1⟩ := kx E ce q u t T'.heap (locs ++ L) e1.symm (by rw [← e2]; exact X'.warmed.alike) hp hb k1 k2 k3 (by rw [e1]; exact hce) hcv hcl T' rfl X'
    exact ⟨t2, st.trans a1, b1⟩
theorem vx_callf {S SX : Type} {post : UInt32 → S → Prop} {px : SX → Prop} {B : S → State → Prop} {BX : String → SX → State → Prop} {AX : Nat → Prop} (hr : vx_Run p l e R s m args below meth c H locs cells slots mc ms (F0 m pc ls st0) rest (va_Qf post B A1 a) (vx_X px BX AX) free) (hS : va_S A0 H0 H locs) (hA : ∀ q, q < H.size → A1 q → A0 q) (hf : ∀ q, free q → A0 q) (hAX : ∀ q, q < H.size → AX q → A0 q)
    (kx : ∀ (E : String) (ce : Cell) (q9 : Addr) (u : SX) (t : State) (H1 : Heap) (locs1 : List Loc), t.heap = H1 → s.vm.Alike t.vm → px u → BX E u t → H.size ≤ H1.size → (∀ q : Nat, q < H.size → ¬ AX q → H1[q]? = H[q]?) → va_S A0 H0 H1 locs1 → H1[q9]? = some ce → ce.vm = .none → s.vm.findClass E = some ce.cls → vx_W p l e R s m args below meth c H1 locs1 (cells + mc) (slots + ms) Q (F0 m pc ls rest) q9)
    (kk : ∀ (r : UInt32) (u : S) (t : State) (H1 : Heap) (locs1 : List Loc), t.heap = H1 → s.vm.Alike t.vm → post r u → B u t → H.size ≤ H1.size → (∀ q : Nat, q < H.size → ¬ A1 q → H1[q]? = H[q]?) → va_S A0 H0 H1 locs1 → W p l e R s m args below meth c H1 locs1 (cells + mc) (slots + ms) Q (F0 m (pc + 3) ls (.float r :: rest))) : W p l e R s m args below meth c H locs cells slots Q (F0 m pc ls st0) := by
  intro T hT X
  rcases hr T hT X with ⟨v, st₀, t, T', L, h0, X', hL, e1, e2, ⟨⟨r, u, hv, hp, hb⟩, hF⟩, st⟩ | ⟨q, st₀, t, T', L, E, ce, h0, X', hL, e1, e2, ⟨u, hp, hb, hF⟩, hce, hcv, hcl, st⟩
  · cases hv
    obtain ⟨k1, k2, k3⟩ := vx_keep h0 e1 hS hA hf hL hF
    obtain ⟨t2, a1, b1⟩ := kk r u t T'.heap (locs ++ L) e1.symm (by rw [← e2]; exact X'.warmed.alike) hp hb k1 k2 k3 T' rfl X'
    exact ⟨t2, st t2 a1, b1⟩
  · obtain ⟨k1, k2, k3⟩ := vx_keep h0 e1 hS hAX hf hL hF
    obtain ⟨t2, a1, b1⟩ := kx E ce q u t T'.heap (locs ++ L) e1.symm (by rw [← e2]; exact X'.warmed.alike) hp hb k1 k2 k3 (by rw [e1]; exact hce) hcv hcl T' rfl X'
    exact ⟨t2, st.trans a1, b1⟩
theorem vx_calld {S SX : Type} {post : UInt64 → S → Prop} {px : SX → Prop} {B : S → State → Prop} {BX : String → SX → State → Prop} {AX : Nat → Prop} (hr : vx_Run p l e R s m args below meth c H locs cells slots mc ms (F0 m pc ls st0) rest (va_Qd post B A1 a) (vx_X px BX AX) free) (hS : va_S A0 H0 H locs) (hA : ∀ q, q < H.size → A1 q → A0 q) (hf : ∀ q, free q → A0 q) (hAX : ∀ q, q < H.size → AX q → A0 q)
    (kx : ∀ (E : String) (ce : Cell) (q9 : Addr) (u : SX) (t : State) (H1 : Heap) (locs1 : List Loc), t.heap = H1 → s.vm.Alike t.vm → px u → BX E u t → H.size ≤ H1.size → (∀ q : Nat, q < H.size → ¬ AX q → H1[q]? = H[q]?) → va_S A0 H0 H1 locs1 → H1[q9]? = some ce → ce.vm = .none → s.vm.findClass E = some ce.cls → vx_W p l e R s m args below meth c H1 locs1 (cells + mc) (slots + ms) Q (F0 m pc ls rest) q9)
    (kk : ∀ (r : UInt64) (u : S) (t : State) (H1 : Heap) (locs1 : List Loc), t.heap = H1 → s.vm.Alike t.vm → post r u → B u t → H.size ≤ H1.size → (∀ q : Nat, q < H.size → ¬ A1 q → H1[q]? = H[q]?) → va_S A0 H0 H1 locs1 → W p l e R s m args below meth c H1 locs1 (cells + mc) (slots + ms) Q (F0 m (pc + 3) ls (.double r :: rest))) : W p l e R s m args below meth c H locs cells slots Q (F0 m pc ls st0) := by
  intro T hT X
  rcases hr T hT X with ⟨v, st₀, t, T', L, h0, X', hL, e1, e2, ⟨⟨r, u, hv, hp, hb⟩, hF⟩, st⟩ | ⟨q, st₀, t, T', L, E, ce, h0, X', hL, e1, e2, ⟨u, hp, hb, hF⟩, hce, hcv, hcl, st⟩
  · cases hv
    obtain ⟨k1, k2, k3⟩ := vx_keep h0 e1 hS hA hf hL hF
    obtain ⟨t2, a1, b1⟩ := kk r u t T'.heap (locs ++ L) e1.symm (by rw [← e2]; exact X'.warmed.alike) hp hb k1 k2 k3 T' rfl X'
    exact ⟨t2, st t2 a1, b1⟩
  · obtain ⟨k1, k2, k3⟩ := vx_keep h0 e1 hS hAX hf hL hF
    obtain ⟨t2, a1, b1⟩ := kx E ce q u t T'.heap (locs ++ L) e1.symm (by rw [← e2]; exact X'.warmed.alike) hp hb k1 k2 k3 (by rw [e1]; exact hce) hcv hcl T' rfl X'
    exact ⟨t2, st.trans a1, b1⟩
theorem vx_callv {S SX : Type} {post : S → Prop} {px : SX → Prop} {B : S → State → Prop} {BX : String → SX → State → Prop} {AX : Nat → Prop} (hr : vx_Run p l e R s m args below meth c H locs cells slots mc ms (F0 m pc ls st0) rest (va_Qv post B A1 a) (vx_X px BX AX) free) (hS : va_S A0 H0 H locs) (hA : ∀ q, q < H.size → A1 q → A0 q) (hf : ∀ q, free q → A0 q) (hAX : ∀ q, q < H.size → AX q → A0 q)
    (kx : ∀ (E : String) (ce : Cell) (q9 : Addr) (u : SX) (t : State) (H1 : Heap) (locs1 : List Loc), t.heap = H1 → s.vm.Alike t.vm → px u → BX E u t → H.size ≤ H1.size → (∀ q : Nat, q < H.size → ¬ AX q → H1[q]? = H[q]?) → va_S A0 H0 H1 locs1 → H1[q9]? = some ce → ce.vm = .none → s.vm.findClass E = some ce.cls → vx_W p l e R s m args below meth c H1 locs1 (cells + mc) (slots + ms) Q (F0 m pc ls rest) q9)
    (kk : ∀ (u : S) (t : State) (H1 : Heap) (locs1 : List Loc), t.heap = H1 → s.vm.Alike t.vm → post u → B u t → H.size ≤ H1.size → (∀ q : Nat, q < H.size → ¬ A1 q → H1[q]? = H[q]?) → va_S A0 H0 H1 locs1 → W p l e R s m args below meth c H1 locs1 (cells + mc) (slots + ms) Q (F0 m (pc + 3) ls (rest))) : W p l e R s m args below meth c H locs cells slots Q (F0 m pc ls st0) := by
  intro T hT X
  rcases hr T hT X with ⟨v, st₀, t, T', L, h0, X', hL, e1, e2, ⟨⟨u, hv, hp, hb⟩, hF⟩, st⟩ | ⟨q, st₀, t, T', L, E, ce, h0, X', hL, e1, e2, ⟨u, hp, hb, hF⟩, hce, hcv, hcl, st⟩
  · cases hv
    obtain ⟨k1, k2, k3⟩ := vx_keep h0 e1 hS hA hf hL hF
    obtain ⟨t2, a1, b1⟩ := kk u t T'.heap (locs ++ L) e1.symm (by rw [← e2]; exact X'.warmed.alike) hp hb k1 k2 k3 T' rfl X'
    exact ⟨t2, st t2 a1, b1⟩
  · obtain ⟨k1, k2, k3⟩ := vx_keep h0 e1 hS hAX hf hL hF
    obtain ⟨t2, a1, b1⟩ := kx E ce q u t T'.heap (locs ++ L) e1.symm (by rw [← e2]; exact X'.warmed.alike) hp hb k1 k2 k3 (by rw [e1]; exact hce) hcv hcl T' rfl X'
    exact ⟨t2, st.trans a1, b1⟩
/-- caught by the row x of this method's table; the rows ahead don't take it -/
theorem vx_catch {own name : String} {E : String} {ce : Cell} {q : Addr} (hown : s.vm.findClass own = some m.cls) (pre : List ExceptionTableEntry) (x : ExceptionTableEntry) (suf : List ExceptionTableEntry) (hsplit : c.exceptionTable.toList = pre ++ x :: suf)
    (hpass : ∀ z ∈ pre, covers z pc = false ∨ (z.catchType ≠ 0 ∧ ∃ nm : String, (Cond.classLink own z.catchType nm).before args s = true ∧ va_Nc E nm s)) (hx : covers x pc = true) (h0 : x.catchType ≠ 0)
    (hlink : (Cond.classLink own x.catchType name).before args s = true) (hcast : (Cond.castable E name).before args s = true) (hcell : H[q]? = some ce) (hv : ce.vm = .none) (hcl : s.vm.findClass E = some ce.cls)
    (kk : W p l e R s m args below meth c H locs cells slots Q (F0 m x.handlerPc ls [.ref q])) : vx_W p l e R s m args below meth c H locs cells slots Q (F0 m pc ls rest) q := by
  intro T hT X
  have hpl : e.platform.magicAccessors = ({} : Platform).magicAccessors := by rw [X.admits.platform]
  obtain ⟨c3, c4, hc3, hc4, hasg⟩ := Cond.castable_spec hcast
  cases Option.some.inj (hc3.symm.trans hcl)
  obtain ⟨c5, hc5, hcl5⟩ := Cond.classLink_spec hown hlink e.platform hpl
  cases Option.some.inj (hc4.symm.trans hc5)
  obtain ⟨vm', X', st⟩ := X.thenCaughtThrough q (g := F0 m pc ls rest) rfl (Steps.refl _) (by rw [hT]; exact hcell) (by rw [hv]; rfl) (by obtain ⟨k9, h9, -⟩ := Vm.findClass_spec hcl; exact ⟨k9, h9⟩) pre x suf hsplit
    (fun z hz => by
      rcases hpass z hz with h | ⟨hz0, nm, hl1, hn1⟩
      · exact Or.inl h
      · obtain ⟨c6, hc6, hcl6⟩ := Cond.classLink_spec hown hl1 e.platform hpl
        obtain ⟨a8, b8, h1, h2, h3⟩ := hn1
        cases Option.some.inj (h1.symm.trans hcl)
        cases Option.some.inj (h2.symm.trans hc6)
        exact Or.inr ⟨hz0, _, hcl6, h3⟩) hx (Or.inr ⟨h0, c4, hcl5, hasg⟩)
  obtain ⟨t, a1, b1⟩ := kk (T.setVm vm') hT X'
  exact ⟨t, st.trans a1, b1⟩
end Rows
section Ends
variable {p : Program} {l : Launch} {e : Env} {R : Room} {s : State} {m : MethodId} {args : Array Value} {below : List Frame} {meth : Method} {c : Code} {H : Heap} {locs : List Loc} {cells slots : Nat} {Q : State → Prop}
variable {mc ms : Nat} {free : Addr → Prop} {A0 A1 : Nat → Prop} {H0 : Heap} {a : Array Value} {ls : Array Slot} {st0 rest : List Value}
variable {Qc : Array Value → State → Outcome → State → Prop} {XC : String → State → State → Prop}
/-- what a body that may throw owes at its end -/
def vx_MQ (below : List Frame) (Qc : Array Value → State → Outcome → State → Prop) (XC : String → State → State → Prop) (a : Array Value) (s : State) (mc ms : Nat) (free : Addr → Prop) : State → Prop := fun t =>
  ∃ o, t.status = .running ∧ Ended t below o ∧ vx_Q Qc XC mc ms free a s o t
theorem vx_ret {g : JFrame} {mc ms : Nat} (k : W p l e R s m args below meth c H locs cells slots (MQ below Qc args s mc ms free) g) : W p l e R s m args below meth c H locs cells slots (vx_MQ below Qc XC args s mc ms free) g := by
  intro T hT X
  obtain ⟨t, a1, o, b1, b2, b3, b4⟩ := k T hT X
  exact ⟨t, a1, o, b1, b2, Or.inl ⟨b3, b4⟩⟩
/-- not caught here: it goes on to the caller -/
theorem vx_widen {g : JFrame} {q : Addr} {k n : Nat} (h1 : cells ≤ k) (h2 : slots ≤ n) (kk : vx_W p l e R s m args below meth c H locs k n Q g q) : vx_W p l e R s m args below meth c H locs cells slots Q g q := fun T hT X => kk T hT (stand_widen X h1 h2)
theorem vx_out {pc : Nat} {E : String} {ce : Cell} {q : Addr} {mc ms : Nat} (hout : ∀ x ∈ c.exceptionTable.toList, covers x pc = false) (hlocks : meth.locks = false) (hcell : H[q]? = some ce) (hv : ce.vm = .none) (hcl : s.vm.findClass E = some ce.cls)
    (hx : ∀ t : State, t.heap = H → s.vm.Alike t.vm → XC E s t) (hf : ∀ z ∈ locs, free z.base) (hc : cells ≤ mc) (hs : slots ≤ ms) :
    vx_W p l e R s m args below meth c H locs cells slots (vx_MQ below Qc XC args s mc ms free) (F0 m pc ls rest) q := by
  intro T hT X
  obtain ⟨st1, hrun, hend, hW, hsm⟩ := X.leaveThrown q (g := F0 m pc ls rest) rfl rfl rfl hout hlocks
  have hcell9 : (T.setFrames (.throwing q :: below)).heap[q]? = some ce := by
    show T.heap[q]? = some ce
    rw [hT]; exact hcell
  exact ⟨_, st1, .threw q, hrun, hend, Or.inr ⟨q, rfl, E, ce, locs, hx _ hT hW.alike, hcell9, hv, hcl, hW, hsm.mono hc hs, hf⟩⟩
theorem vx_frame {U : State} {k n : Nat} (h : s.sameButNew ({ U with vm := s.vm } : State) locs k n) : s.heap.size ≤ U.heap.size ∧ ∀ q : Nat, q < s.heap.size → (∀ z ∈ locs, z.base ≠ q) → U.heap[q]? = s.heap[q]? := by
  obtain ⟨-, h2, -, -, -, h6⟩ := h
  refine ⟨h2, fun q hq hz => ?_⟩
  obtain ⟨c9, e1, e2, e3, e4⟩ := h6 q _ (Array.getElem?_eq_getElem hq)
  have hs : c9.slots = (s.heap[q]).slots := Array.ext_getElem? fun i => e4 i fun hm => hz _ hm rfl
  have h9 : c9 = s.heap[q] := by
    rw [hs] at e2
    exact e2
  have e5 : U.heap[q]? = some c9 := e1
  rw [e5, h9, Array.getElem?_eq_getElem hq]
/-- the words of a throw but the four that speak of the heap -/
def vx_no (w : Cond) : Bool := decide (w ≠ .isRef (.static Bundle.tN "UNASSIGNED_STACK" Bundle.steD)) && decide (w ≠ .isRef (.static Bundle.tN "SUPPRESSED_SENTINEL" Bundle.listD)) && decide (w ≠ .laysStatic Bundle.tN "UNASSIGNED_STACK" Bundle.steD) && decide (w ≠ .laysStatic Bundle.tN "SUPPRESSED_SENTINEL" Bundle.listD)
def vx_at0 (own : String) (ic : Nat) (X : String) (names : List String) : List Cond := (Bundle.ownAtoms0 own ic X names).filter vx_no
def vx_atS (own : String) (ic : Nat) (X : String) (names : List String) : List Cond := (Bundle.ownAtoms own ic X names).filter vx_no
/-- a word that the tables alone decide, or a good one -/
def vx_ot (w : Cond) : Bool := w.onTables || goodWord w
theorem vx_ot_at {args a' : Array Value} {s U : State} {w : Cond} (hW : s.WarmedH U.vm) (hvm : s.vm = U.vm) (hg : vx_ot w = true) (h : w.before args s = true) : w.before a' U = true := by
  simp only [vx_ot, Bool.or_eq_true] at hg
  rcases hg with hg | hg
  · exact va_tabs hg hvm h
  · exact word_at hW (good_of_word hg) h
/-- a list's words: the good ones out of the method's own list, the others by premises of their own -/
theorem vx_hat {args : Array Value} {s : State} {L B : List Cond} (h1 : ∀ w ∈ L.filter goodWord, w.before args s = true) (h2 : ∀ w ∈ L.filter (fun w => !goodWord w), w ∈ B) (h3 : ∀ w ∈ B, w.before args s = true) : ∀ w ∈ L, w.before args s = true := by
  intro w hw
  by_cases g : goodWord w = true
  · exact h1 w (List.mem_filter.mpr ⟨hw, g⟩)
  · refine h3 w (h2 w (List.mem_filter.mpr ⟨hw, ?_⟩))
    show (!goodWord w) = true
    cases hgw : goodWord w
    · rfl
    · exact absurd hgw g
theorem vx_c {args : Array Value} {s : State} {w : Cond} {B : List Cond} (h : w.before args s = true) (t : ∀ w ∈ B, w.before args s = true) : ∀ w' ∈ w :: B, w'.before args s = true := fun w' h' => (List.mem_cons.mp h').elim (fun e => by rw [e]; exact h) (t w')
theorem vx_n {args : Array Value} {s : State} : ∀ w ∈ ([] : List Cond), w.before args s = true := fun _ h => nomatch h
theorem vx_own {args : Array Value} {s : State} {L : List Cond} (h1 : ∀ w ∈ L.filter vx_no, w.before args s = true)
    (hU : (Cond.isRef (.static Bundle.tN "UNASSIGNED_STACK" Bundle.steD)).before args s = true) (hN : (Cond.isRef (.static Bundle.tN "SUPPRESSED_SENTINEL" Bundle.listD)).before args s = true)
    (lU : (Cond.laysStatic Bundle.tN "UNASSIGNED_STACK" Bundle.steD).before args s = true) (lN : (Cond.laysStatic Bundle.tN "SUPPRESSED_SENTINEL" Bundle.listD).before args s = true) : ∀ w ∈ L, w.before args s = true := by
  intro w hw
  by_cases e1 : w = .isRef (.static Bundle.tN "UNASSIGNED_STACK" Bundle.steD)
  · rw [e1]; exact hU
  · by_cases e2 : w = .isRef (.static Bundle.tN "SUPPRESSED_SENTINEL" Bundle.listD)
    · rw [e2]; exact hN
    · by_cases e3 : w = .laysStatic Bundle.tN "UNASSIGNED_STACK" Bundle.steD
      · rw [e3]; exact lU
      · by_cases e4 : w = .laysStatic Bundle.tN "SUPPRESSED_SENTINEL" Bundle.listD
        · rw [e4]; exact lN
        · exact h1 w (List.mem_filter.mpr ⟨hw, by unfold vx_no; rw [decide_eq_true e1, decide_eq_true e2, decide_eq_true e3, decide_eq_true e4]; rfl⟩)
/-- where a static field lies, its class's statics cell in H -/
def vx_L (C n d : String) (A : Nat → Prop) (U : State) (H : Heap) : Prop := ∃ (c : ClassId) (k : Class) (i : Nat) (f : Field) (a : Nat) (cell : Cell), U.vm.findClass C = some c ∧ U.fieldFound? C n d = some (c, k, i, f) ∧ f.isStatic = true ∧ k.statics = some a ∧ H[a]? = some cell ∧ cell.vm.isStatics = true ∧ cell.cls = c ∧ f.slot < cell.slots.size ∧ k.staticTypes[f.slot]? = some f.type ∧ ¬ A a
theorem vx_L.moved {C n d : String} {A : Nat → Prop} {u U : State} {H : Heap} (hvm : u.vm.Alike U.vm) (h : vx_L C n d A u H) : vx_L C n d A U H := by
  obtain ⟨c, k, i, f, a, cell, h1, h2, h3, h4, h5, h6, h7, h8, h9, h10⟩ := h
  obtain ⟨k', hi', he⟩ := State.fieldFound?_setVm hvm h2
  exact ⟨c, k', i, f, a, cell, by rw [hvm.findClass]; exact h1, hi', h3, by rw [he]; exact h4, h5, h6, h7, h8, by rw [he]; exact h9, h10⟩
theorem vx_L.kept {C n d : String} {A : Nat → Prop} {U : State} {H H1 : Heap} (h : vx_L C n d A U H) (hq : ∀ a : Nat, a < H.size → ¬ A a → H1[a]? = H[a]?) : vx_L C n d A U H1 := by
  obtain ⟨c, k, i, f, a, cell, h1, h2, h3, h4, h5, h6, h7, h8, h9, h10⟩ := h
  exact ⟨c, k, i, f, a, cell, h1, h2, h3, h4, by rw [hq a (Array.getElem?_eq_some_iff.mp h5).1 h10]; exact h5, h6, h7, h8, h9, h10⟩
theorem vx_L.narrow {C n d : String} {A B : Nat → Prop} {U : State} {H : Heap} (h : vx_L C n d A U H) (hAB : ∀ q, B q → A q) : vx_L C n d B U H := by
  obtain ⟨c, k, i, f, a, cell, h1, h2, h3, h4, h5, h6, h7, h8, h9, h10⟩ := h
  exact ⟨c, k, i, f, a, cell, h1, h2, h3, h4, h5, h6, h7, h8, h9, fun z => h10 (hAB _ z)⟩
theorem vx_L.word {C n d : String} {A : Nat → Prop} {s : State} {args : Array Value} (h : vx_L C n d A s s.heap) : (Cond.laysStatic C n d).before args s = true := by
  obtain ⟨c, k, i, f, a, cell, h1, h2, h3, h4, h5, h6, h7, h8, h9, -⟩ := h
  show (Cond.laysStatic C n d).holds args s none s [] = true
  exact Cond.laysStatic_of h1 h2 h3 h4 h5 h6 h7 h8 h9
/-- .. and what it holds: null or some reference -/
def vx_Zq (C n d : String) (A : Nat → Prop) (U : State) (H : Heap) : Prop := va_Zq C n d A U H ∧ vx_L C n d A U H
theorem vx_Zq.moved {C n d : String} {A : Nat → Prop} {u U : State} {H : Heap} (hvm : u.vm.Alike U.vm) (h : vx_Zq C n d A u H) : vx_Zq C n d A U H := ⟨va_Zq.moved hvm h.1, vx_L.moved hvm h.2⟩
theorem vx_Zq.kept {C n d : String} {A : Nat → Prop} {U : State} {H H1 : Heap} (h : vx_Zq C n d A U H) (hq : ∀ a : Nat, a < H.size → ¬ A a → H1[a]? = H[a]?) : vx_Zq C n d A U H1 := ⟨va_Zq.kept h.1 hq, vx_L.kept h.2 hq⟩
theorem vx_Zq.narrow {C n d : String} {A B : Nat → Prop} {U : State} {H : Heap} (h : vx_Zq C n d A U H) (hAB : ∀ q, B q → A q) : vx_Zq C n d B U H := ⟨va_Zq.narrow h.1 hAB, vx_L.narrow h.2 hAB⟩
theorem vx_Zqof {args : Array Value} {s : State} {C n d : String} {A : Nat → Prop} (hl : (Cond.laysStatic C n d).before args s = true) (hini : (Cond.initialized C).before args s = true) (h : (Cond.isRef (.static C n d)).before args s = true) (hA : ∀ a : Nat, a < s.heap.size → ¬ A a) : vx_Zq C n d A s s.heap := by
  refine ⟨va_Zqof hl hini h hA, ?_⟩
  obtain ⟨c, k, i, f, a, cell, h1, h2, h3, h4, h5, h6, h7, h8, h9⟩ := Cond.laysStatic_spec hl
  exact ⟨c, k, i, f, a, cell, h1, h2, h3, h4, h5, h6, h7, h8, h9, hA a (Array.getElem?_eq_some_iff.mp h5).1⟩
theorem vx_isRef {C n d : String} {v : Value} {A : Nat → Prop} {s : State} {args : Array Value} (h : va_Z C n d v A s s.heap) (hv : v.isRef = true) : (Cond.isRef (.static C n d)).before args s = true := by
  obtain ⟨cf, kf, fi, f, a, cell, h1, h2, h3, h4, h5, h6, h7, -⟩ := h
  have he : (Term.static C n d).eval args s none [] s = some v := by
    simp [Term.eval, State.fieldNamed?, h1, h2, h4, h5, h6, h7]
  simp only [Cond.before, Cond.holds, Cond.value, he]
  cases v <;> simp_all [Value.isRef]
theorem vx_isRefq {C n d : String} {A : Nat → Prop} {s : State} {args : Array Value} (h : va_Zq C n d A s s.heap) : (Cond.isRef (.static C n d)).before args s = true := by
  rcases h with h | ⟨t, h⟩
  · exact vx_isRef h rfl
  · exact vx_isRef h rfl
/-- the same frame, seen from here: as if the method were called anew in this heap -/
theorem vx_rebase {T : State} (X : Stand p l e R s m args below meth c T locs cells slots) {R' : Room} (hf : R'.frames ≤ R.frames) (hl : R'.locals ≤ R.locals) (hc : cells + R'.cells ≤ R.cells) (hs : slots + R'.slots ≤ R.slots) :
    Stand p l e R' ((T.setVm s.vm).setFrames (.invoking m args :: below)) m args below meth c T [] 0 0 := by
  have htop : (T.setVm s.vm).topJava?.isSome := X.here.top
  have hF : ((T.setVm s.vm).setFrames (.invoking m args :: below)).frames = .invoking m args :: below := State.frames_setFrames _ (State.cur_lt_of_top htop)
  obtain ⟨g₀, hg0⟩ := Option.isSome_iff_exists.mp htop
  obtain ⟨r, hr⟩ := State.topJava?_eq_some.mp hg0
  have hl9 : e.platform.stackLimits (T.setVm s.vm).me = e.platform.stackLimits s.me := X.limits
  have hb9 : (T.setVm s.vm).me.stackBytes = s.me.stackBytes := X.bytes
  refine ⟨X.admits, X.cas, X.clock, hF, ?_, X.hears, X.method, X.code, X.here, X.tail, X.warmed, ?_, ?_, ?_⟩
  · have h := X.room
    have hU : ((T.setVm s.vm).setFrames (.invoking m args :: below)).localsInUse = s.localsInUse := by
      rw [State.localsInUse_invoking hF (meth := meth) (c := c) X.method X.code, State.localsInUse_invoking X.frames X.method X.code]
    simp only [State.hasRoom, Bool.and_eq_true, decide_eq_true_eq] at h ⊢
    obtain ⟨⟨⟨⟨h1, h2, h3, h4, h5, h6⟩, h7⟩, h8⟩, h9⟩ := h
    rw [X.frames, List.length_cons] at h2 h3
    have q1 := X.heapSize
    have q2 := X.used
    simp only [hF, hU, List.length_cons, State.stackLimits_setFrames, State.stackBytes_setFrames, hl9, hb9]
    refine ⟨⟨⟨⟨by omega, by omega, by omega, by omega, by omega, h6⟩, ?_⟩, ?_⟩, X.book⟩
    · show T.heap.size + R'.cells ≤ e.platform.maxCells
      omega
    · show T.slotsUsed + R'.slots ≤ e.platform.maxSlots
      omega
  · rw [State.stackLimits_setFrames]; rfl
  · rw [State.stackBytes_setFrames]; rfl
  · refine ⟨?_, Nat.le_refl _, Nat.le_refl _, ?_, ?_, fun a c9 h9 => ⟨c9, h9, rfl, rfl, fun _ _ => rfl⟩⟩
    · obtain ⟨t, ht, -⟩ := State.frames_cons hr
      show T.setVm s.vm = { ((T.setVm s.vm).setFrames (.invoking m args :: below)).setFrames (T.setVm s.vm).frames with heap := T.heap, slotsUsed := T.slotsUsed }
      rw [State.setFrames_setFrames, State.setFrames_self ht]
      rfl
    · show T.slotsUsed = T.slotsUsed + ((T.heap.toList.drop T.heap.size).map (·.slots.size)).sum
      rw [List.drop_eq_nil_of_le (Nat.le_of_eq Array.length_toList)]
      rfl
    · show ((T.heap.toList.drop T.heap.size).map (·.slots.size)).sum ≤ 0
      rw [List.drop_eq_nil_of_le (Nat.le_of_eq Array.length_toList)]
      exact Nat.le_refl _
/-- 'throw new E()': new; dup; invokespecial; athrow -/
theorem vx_throw0 {cc : ByteArray} {pc : Nat} (hexec : p.tables.exec = Jvm.exec) (hb : c.code = cc) (hl : l.stackTraces = false) {own cls : String} {names : List String} {ik ic mc ms : Nat} {A : Nat → Prop}
    (hown : s.vm.findClass own = some m.cls) (hcls : Bundle.fit cls = true) (hnames : ∀ n ∈ names, Bundle.fit n = true)
    (hk : (Cond.classLink own ik cls).before args s = true) (hini : (Cond.initialized cls).before args s = true) (hat : ∀ w ∈ vx_at0 own ic cls names, w.before args s = true)
    (hgood : ∀ w ∈ Cond.classLink own ik cls :: Cond.initialized cls :: vx_at0 own ic cls names, vx_ot w = true)
    (hU : vx_Zq Bundle.tN "UNASSIGNED_STACK" Bundle.steD A s s.heap) (hN : vx_Zq Bundle.tN "SUPPRESSED_SENTINEL" Bundle.listD A s s.heap) (hS : va_S A s.heap H locs) (hsize : ls.size = c.maxLocals)
    (d0 : decode cc pc = .ok (.new ik, 3)) (d3 : decode cc (pc + 3) = .ok (.dup, 1)) (d4 : decode cc (pc + 4) = .ok (.invokespecial ic, 3)) (d7 : decode cc (pc + 7) = .ok (.athrow, 1))
    (hout : ∀ x ∈ c.exceptionTable.toList, covers x (pc + 7) = false)
    (hRframes : names.length + 3 < R.frames) (hRlocals : (rest.map fun v => v.category).sum + (13 * (names.length + 1) + 42) ≤ R.locals) (hRcells : cells + 1 ≤ R.cells) (hRslots : slots + 6 ≤ R.slots) (hlocks : meth.locks = false)
    (hx : ∀ t : State, s.vm.Alike t.vm → H.size ≤ t.heap.size → (∀ q : Nat, q < H.size → t.heap[q]? = H[q]?) → XC cls s t)
    (hf : ∀ z ∈ locs, free z.base) (hc : cells + 1 ≤ mc) (hs : slots + 6 ≤ ms) :
    W p l e R s m args below meth c H locs cells slots (vx_MQ below Qc XC args s mc ms free) (F0 m pc ls rest) := by
  intro T hT X
  have htr : e.platform.stackTraces = false := (show e.platform.stackTraces = l.stackTraces by rw [X.admits.platform]).trans hl
  have Y := vx_rebase X (R' := { frames := R.frames, locals := R.locals, cells := 1, slots := 6 }) (Nat.le_refl _) (Nat.le_refl _) hRcells hRslots
  obtain ⟨s', hA⟩ : ∃ z, z = (T.setVm s.vm).setFrames (.invoking m args :: below) := ⟨_, rfl⟩
  rw [← hA] at Y
  have hvm : s'.vm = s.vm := by rw [hA]; rfl
  have hhp : s'.heap = H := by rw [hA]; exact hT
  have hW0 : s.WarmedH s'.vm := by rw [hvm]; exact State.WarmedH.refl s
  have hat' : ∀ w ∈ vx_at0 own ic cls names, w.before args s' = true := fun w hw => vx_ot_at hW0 hvm.symm (hgood w (List.mem_cons_of_mem _ (List.mem_cons_of_mem _ hw))) (hat w hw)
  have hk' : (Cond.classLink own ik cls).before args s' = true := vx_ot_at hW0 hvm.symm (hgood _ List.mem_cons_self) hk
  have hini' : (Cond.initialized cls).before args s' = true := vx_ot_at hW0 hvm.symm (hgood _ (List.mem_cons_of_mem _ List.mem_cons_self)) hini
  have hU' : vx_Zq Bundle.tN "UNASSIGNED_STACK" Bundle.steD A s' s'.heap := by rw [hhp]; exact vx_Zq.moved hW0.alike (hU.kept hS.2.1)
  have hN' : vx_Zq Bundle.tN "SUPPRESSED_SENTINEL" Bundle.listD A s' s'.heap := by rw [hhp]; exact vx_Zq.moved hW0.alike (hN.kept hS.2.1)
  have h : ∀ w ∈ Bundle.ownAtoms0 own ic cls names, w.before args s' = true := vx_own hat' (vx_isRefq hU'.1) (vx_isRefq hN'.1) hU'.2.word hN'.2.word
  have hown' : s'.vm.findClass own = some m.cls := by rw [hvm]; exact hown
  have hins : (Cond.instantiable cls 6).before args s' = true := h _ (by simp [Bundle.ownAtoms0])
  obtain ⟨vm₁, cX, kX, hfX, hkX, -, -, X₁, st1⟩ := Y.newCold hexec (own := own) (C := cls) (index := ik) (n := 6) hown' hk' hins hini'
    (g := F0 m pc ls rest) rfl (by rw [hb]; exact d0) (Nat.le_refl _) (Nat.le_refl _)
  generalize hT1 : (T.setVm vm₁).pushCell { cls := cX, slots := kX.instanceTypes.map defaultValue, vm := .none } = T1 at X₁ st1
  have hcat : (Value.ref T.heap.size).category = 1 := rfl
  have hcellA : T1.heap[T.heap.size]? = some (freshCell cX kX) := by rw [← hT1]; exact State.heap_pushCell_size _ _
  have d3' : decode c.code (pc + 3) = .ok (.dup, 1) := by rw [hb]; exact d3
  obtain ⟨U, hsteps, hrun, hend, hW, hsame, ce, hce, hO⟩ := X₁.ctorThrow0 hexec htr (own := own) (cls := cls) (names := names) (ic := ic) hown' hcls hnames h (fun x hx => nomatch hx) hfX hkX hcellA (by rw [hhp, hT]; exact Nat.le_refl _)
    (g := { method := m, pc := pc + 4, locals := ls, stack := .ref T.heap.size :: .ref T.heap.size :: rest, locked := none }) rfl hsize rfl rfl (rest := rest) rfl
    (by rw [hb]; exact d4) (by rw [hb]; exact d7) hout hRframes (by simp only [List.map_cons, List.sum_cons, hcat]; omega) hlocks
  obtain ⟨f1, f2⟩ := vx_frame hsame
  rw [hhp] at f1 f2
  have hWs : s.WarmedH U.vm := State.WarmedH.trans hW0 hW
  have hcl : s.vm.findClass cls = some ce.cls := by
    have h9 := hO.cls
    rw [hvm] at h9
    exact h9
  have hall : s.sameButNew ({ U with vm := s.vm } : State) locs mc ms := by
    subst hA
    obtain ⟨e1, e2⟩ := hsame
    rw [State.setFrames_setFrames] at e1
    have h2 : (T.setVm s.vm).sameButNew ({ U with vm := s.vm } : State) [] (0 + 1) (0 + 6) := ⟨e1, e2⟩
    have h3 := X.same.trans h2
    rw [List.append_nil] at h3
    exact h3.mono hc hs
  refine ⟨U, ?_, .threw T.heap.size, hrun, hend, Or.inr ⟨T.heap.size, rfl, cls, ce, locs, hx U hWs.alike f1 (fun q hq => f2 q hq (fun z hz => nomatch hz)), hce, hO.vm, hcl, hWs, hall, hf⟩⟩
  refine st1 _ ?_
  show Steps p.tables e below (T1.setTop { method := m, pc := pc + 3, locals := ls, stack := .ref T.heap.size :: rest, locked := none }) _
  jvm_step X₁.here [X₁.here.top, hexec, d3', Value.category]
  exact hsteps
/-- 'throw new E("text")': new; dup; ldc; invokespecial; athrow -/
theorem vx_throwS {cc : ByteArray} {pc : Nat} (hexec : p.tables.exec = Jvm.exec) (hb : c.code = cc) (hl : l.stackTraces = false) {own cls text : String} {names : List String} {ik is ic mc ms sa : Nat} {A : Nat → Prop}
    (hown : s.vm.findClass own = some m.cls) (hcls : Bundle.fit cls = true) (hnames : ∀ n ∈ names, Bundle.fit n = true)
    (hk : (Cond.classLink own ik cls).before args s = true) (hini : (Cond.initialized cls).before args s = true) (hstr : vk_R own is text sa s) (hat : ∀ w ∈ vx_atS own ic cls names, w.before args s = true)
    (hgood : ∀ w ∈ Cond.classLink own ik cls :: Cond.initialized cls :: vx_atS own ic cls names, vx_ot w = true)
    (hU : vx_Zq Bundle.tN "UNASSIGNED_STACK" Bundle.steD A s s.heap) (hN : vx_Zq Bundle.tN "SUPPRESSED_SENTINEL" Bundle.listD A s s.heap) (hS : va_S A s.heap H locs) (hsize : ls.size = c.maxLocals)
    (d0 : decode cc pc = .ok (.new ik, 3)) (d3 : decode cc (pc + 3) = .ok (.dup, 1)) (d4 : decode cc (pc + 4) = .ok (.ldc is, 2)) (d6 : decode cc (pc + 6) = .ok (.invokespecial ic, 3)) (d9 : decode cc (pc + 9) = .ok (.athrow, 1))
    (hout : ∀ x ∈ c.exceptionTable.toList, covers x (pc + 9) = false)
    (hRframes : names.length + 3 < R.frames) (hRlocals : (rest.map fun v => v.category).sum + (13 * (names.length + 1) + 43) ≤ R.locals) (hRcells : cells + 1 ≤ R.cells) (hRslots : slots + 6 ≤ R.slots) (hlocks : meth.locks = false)
    (hx : ∀ t : State, s.vm.Alike t.vm → H.size ≤ t.heap.size → (∀ q : Nat, q < H.size → t.heap[q]? = H[q]?) → XC cls s t)
    (hf : ∀ z ∈ locs, free z.base) (hc : cells + 1 ≤ mc) (hs : slots + 6 ≤ ms) :
    W p l e R s m args below meth c H locs cells slots (vx_MQ below Qc XC args s mc ms free) (F0 m pc ls rest) := by
  intro T hT X
  have htr : e.platform.stackTraces = false := (show e.platform.stackTraces = l.stackTraces by rw [X.admits.platform]).trans hl
  have Y := vx_rebase X (R' := { frames := R.frames, locals := R.locals, cells := 1, slots := 6 }) (Nat.le_refl _) (Nat.le_refl _) hRcells hRslots
  obtain ⟨s', hA⟩ : ∃ z, z = (T.setVm s.vm).setFrames (.invoking m args :: below) := ⟨_, rfl⟩
  rw [← hA] at Y
  have hvm : s'.vm = s.vm := by rw [hA]; rfl
  have hhp : s'.heap = H := by rw [hA]; exact hT
  have hW0 : s.WarmedH s'.vm := by rw [hvm]; exact State.WarmedH.refl s
  have hat' : ∀ w ∈ vx_atS own ic cls names, w.before args s' = true := fun w hw => vx_ot_at hW0 hvm.symm (hgood w (List.mem_cons_of_mem _ (List.mem_cons_of_mem _ hw))) (hat w hw)
  have hk' : (Cond.classLink own ik cls).before args s' = true := vx_ot_at hW0 hvm.symm (hgood _ List.mem_cons_self) hk
  have hini' : (Cond.initialized cls).before args s' = true := vx_ot_at hW0 hvm.symm (hgood _ (List.mem_cons_of_mem _ List.mem_cons_self)) hini
  have hU' : vx_Zq Bundle.tN "UNASSIGNED_STACK" Bundle.steD A s' s'.heap := by rw [hhp]; exact vx_Zq.moved hW0.alike (hU.kept hS.2.1)
  have hN' : vx_Zq Bundle.tN "SUPPRESSED_SENTINEL" Bundle.listD A s' s'.heap := by rw [hhp]; exact vx_Zq.moved hW0.alike (hN.kept hS.2.1)
  have h : ∀ w ∈ Bundle.ownAtoms own ic cls names, w.before args s' = true := vx_own hat' (vx_isRefq hU'.1) (vx_isRefq hN'.1) hU'.2.word hN'.2.word
  have hown' : s'.vm.findClass own = some m.cls := by rw [hvm]; exact hown
  have hins : (Cond.instantiable cls 6).before args s' = true := h _ (by simp [Bundle.ownAtoms])
  obtain ⟨vm₁, cX, kX, hfX, hkX, -, -, X₁, st1⟩ := Y.newCold hexec (own := own) (C := cls) (index := ik) (n := 6) hown' hk' hins hini'
    (g := F0 m pc ls rest) rfl (by rw [hb]; exact d0) (Nat.le_refl _) (Nat.le_refl _)
  generalize hT1 : (T.setVm vm₁).pushCell { cls := cX, slots := kX.instanceTypes.map defaultValue, vm := .none } = T1 at X₁ st1
  have hcat : (Value.ref T.heap.size).category = 1 := rfl
  have hcellA : T1.heap[T.heap.size]? = some (freshCell cX kX) := by rw [← hT1]; exact State.heap_pushCell_size _ _
  have d3' : decode c.code (pc + 3) = .ok (.dup, 1) := by rw [hb]; exact d3
  have d4' : decode c.code (pc + 4) = .ok (.ldc is, 2) := by rw [hb]; exact d4
  have hstr' : vk_R own is text sa s' := vk_R.warm hW0 hstr
  obtain ⟨U, hsteps, hrun, hend, hW, hsame, ce, hce, hO⟩ := X₁.ctorThrowS hexec htr (own := own) (cls := cls) (names := names) (ic := ic) hown' hcls hnames h (fun x hx => nomatch hx) hfX hkX hcellA (by rw [hhp, hT]; exact Nat.le_refl _) (msg := .ref sa) rfl
    (g := { method := m, pc := pc + 6, locals := ls, stack := .ref sa :: .ref T.heap.size :: .ref T.heap.size :: rest, locked := none }) rfl hsize rfl rfl (rest := rest) rfl
    (by rw [hb]; exact d6) (by rw [hb]; exact d9) hout hRframes (by simp only [List.map_cons, List.sum_cons, hcat]; omega) hlocks
  obtain ⟨f1, f2⟩ := vx_frame hsame
  rw [hhp] at f1 f2
  have hWs : s.WarmedH U.vm := State.WarmedH.trans hW0 hW
  have hcl : s.vm.findClass cls = some ce.cls := by
    have h9 := hO.cls
    rw [hvm] at h9
    exact h9
  have hall : s.sameButNew ({ U with vm := s.vm } : State) locs mc ms := by
    subst hA
    obtain ⟨e1, e2⟩ := hsame
    rw [State.setFrames_setFrames] at e1
    have h2 : (T.setVm s.vm).sameButNew ({ U with vm := s.vm } : State) [] (0 + 1) (0 + 6) := ⟨e1, e2⟩
    have h3 := X.same.trans h2
    rw [List.append_nil] at h3
    exact h3.mono hc hs
  refine ⟨U, ?_, .threw T.heap.size, hrun, hend, Or.inr ⟨T.heap.size, rfl, cls, ce, locs, hx U hWs.alike f1 (fun q hq => f2 q hq (fun z hz => nomatch hz)), hce, hO.vm, hcl, hWs, hall, hf⟩⟩
  refine st1 _ ?_
  show Steps p.tables e below (T1.setTop { method := m, pc := pc + 3, locals := ls, stack := .ref T.heap.size :: rest, locked := none }) _
  jvm_step X₁.here [X₁.here.top, hexec, d3', Value.category]
  exact X₁.ldcString hexec (own := own) (text := text) (index := is) (a := sa) hown' hstr'.1 hstr'.2
    (g := { method := m, pc := pc + 4, locals := ls, stack := .ref T.heap.size :: .ref T.heap.size :: rest, locked := none }) rfl d4' _ hsteps
/-- 'throw new E("text")', the text by a wide index -/
theorem vx_throwSW {cc : ByteArray} {pc : Nat} (hexec : p.tables.exec = Jvm.exec) (hb : c.code = cc) (hl : l.stackTraces = false) {own cls text : String} {names : List String} {ik is ic mc ms sa : Nat} {A : Nat → Prop}
    (hown : s.vm.findClass own = some m.cls) (hcls : Bundle.fit cls = true) (hnames : ∀ n ∈ names, Bundle.fit n = true)
    (hk : (Cond.classLink own ik cls).before args s = true) (hini : (Cond.initialized cls).before args s = true) (hstr : vk_R own is text sa s) (hat : ∀ w ∈ vx_atS own ic cls names, w.before args s = true)
    (hgood : ∀ w ∈ Cond.classLink own ik cls :: Cond.initialized cls :: vx_atS own ic cls names, vx_ot w = true)
    (hU : vx_Zq Bundle.tN "UNASSIGNED_STACK" Bundle.steD A s s.heap) (hN : vx_Zq Bundle.tN "SUPPRESSED_SENTINEL" Bundle.listD A s s.heap) (hS : va_S A s.heap H locs) (hsize : ls.size = c.maxLocals)
    (d0 : decode cc pc = .ok (.new ik, 3)) (d3 : decode cc (pc + 3) = .ok (.dup, 1)) (d4 : decode cc (pc + 4) = .ok (.ldc_w is, 3)) (d7 : decode cc (pc + 7) = .ok (.invokespecial ic, 3)) (d10 : decode cc (pc + 10) = .ok (.athrow, 1))
    (hout : ∀ x ∈ c.exceptionTable.toList, covers x (pc + 10) = false)
    (hRframes : names.length + 3 < R.frames) (hRlocals : (rest.map fun v => v.category).sum + (13 * (names.length + 1) + 43) ≤ R.locals) (hRcells : cells + 1 ≤ R.cells) (hRslots : slots + 6 ≤ R.slots) (hlocks : meth.locks = false)
    (hx : ∀ t : State, s.vm.Alike t.vm → H.size ≤ t.heap.size → (∀ q : Nat, q < H.size → t.heap[q]? = H[q]?) → XC cls s t)
    (hf : ∀ z ∈ locs, free z.base) (hc : cells + 1 ≤ mc) (hs : slots + 6 ≤ ms) :
    W p l e R s m args below meth c H locs cells slots (vx_MQ below Qc XC args s mc ms free) (F0 m pc ls rest) := by
  intro T hT X
  have htr : e.platform.stackTraces = false := (show e.platform.stackTraces = l.stackTraces by rw [X.admits.platform]).trans hl
  have Y := vx_rebase X (R' := { frames := R.frames, locals := R.locals, cells := 1, slots := 6 }) (Nat.le_refl _) (Nat.le_refl _) hRcells hRslots
  obtain ⟨s', hA⟩ : ∃ z, z = (T.setVm s.vm).setFrames (.invoking m args :: below) := ⟨_, rfl⟩
  rw [← hA] at Y
  have hvm : s'.vm = s.vm := by rw [hA]; rfl
  have hhp : s'.heap = H := by rw [hA]; exact hT
  have hW0 : s.WarmedH s'.vm := by rw [hvm]; exact State.WarmedH.refl s
  have hat' : ∀ w ∈ vx_atS own ic cls names, w.before args s' = true := fun w hw => vx_ot_at hW0 hvm.symm (hgood w (List.mem_cons_of_mem _ (List.mem_cons_of_mem _ hw))) (hat w hw)
  have hk' : (Cond.classLink own ik cls).before args s' = true := vx_ot_at hW0 hvm.symm (hgood _ List.mem_cons_self) hk
  have hini' : (Cond.initialized cls).before args s' = true := vx_ot_at hW0 hvm.symm (hgood _ (List.mem_cons_of_mem _ List.mem_cons_self)) hini
  have hU' : vx_Zq Bundle.tN "UNASSIGNED_STACK" Bundle.steD A s' s'.heap := by rw [hhp]; exact vx_Zq.moved hW0.alike (hU.kept hS.2.1)
  have hN' : vx_Zq Bundle.tN "SUPPRESSED_SENTINEL" Bundle.listD A s' s'.heap := by rw [hhp]; exact vx_Zq.moved hW0.alike (hN.kept hS.2.1)
  have h : ∀ w ∈ Bundle.ownAtoms own ic cls names, w.before args s' = true := vx_own hat' (vx_isRefq hU'.1) (vx_isRefq hN'.1) hU'.2.word hN'.2.word
  have hown' : s'.vm.findClass own = some m.cls := by rw [hvm]; exact hown
  have hins : (Cond.instantiable cls 6).before args s' = true := h _ (by simp [Bundle.ownAtoms])
  obtain ⟨vm₁, cX, kX, hfX, hkX, -, -, X₁, st1⟩ := Y.newCold hexec (own := own) (C := cls) (index := ik) (n := 6) hown' hk' hins hini'
    (g := F0 m pc ls rest) rfl (by rw [hb]; exact d0) (Nat.le_refl _) (Nat.le_refl _)
  generalize hT1 : (T.setVm vm₁).pushCell { cls := cX, slots := kX.instanceTypes.map defaultValue, vm := .none } = T1 at X₁ st1
  have hcat : (Value.ref T.heap.size).category = 1 := rfl
  have hcellA : T1.heap[T.heap.size]? = some (freshCell cX kX) := by rw [← hT1]; exact State.heap_pushCell_size _ _
  have d3' : decode c.code (pc + 3) = .ok (.dup, 1) := by rw [hb]; exact d3
  have d4' : decode c.code (pc + 4) = .ok (.ldc_w is, 3) := by rw [hb]; exact d4
  have hstr' : vk_R own is text sa s' := vk_R.warm hW0 hstr
  obtain ⟨U, hsteps, hrun, hend, hW, hsame, ce, hce, hO⟩ := X₁.ctorThrowS hexec htr (own := own) (cls := cls) (names := names) (ic := ic) hown' hcls hnames h (fun x hx => nomatch hx) hfX hkX hcellA (by rw [hhp, hT]; exact Nat.le_refl _) (msg := .ref sa) rfl
    (g := { method := m, pc := pc + 7, locals := ls, stack := .ref sa :: .ref T.heap.size :: .ref T.heap.size :: rest, locked := none }) rfl hsize rfl rfl (rest := rest) rfl
    (by rw [hb]; exact d7) (by rw [hb]; exact d10) hout hRframes (by simp only [List.map_cons, List.sum_cons, hcat]; omega) hlocks
  obtain ⟨f1, f2⟩ := vx_frame hsame
  rw [hhp] at f1 f2
  have hWs : s.WarmedH U.vm := State.WarmedH.trans hW0 hW
  have hcl : s.vm.findClass cls = some ce.cls := by
    have h9 := hO.cls
    rw [hvm] at h9
    exact h9
  have hall : s.sameButNew ({ U with vm := s.vm } : State) locs mc ms := by
    subst hA
    obtain ⟨e1, e2⟩ := hsame
    rw [State.setFrames_setFrames] at e1
    have h2 : (T.setVm s.vm).sameButNew ({ U with vm := s.vm } : State) [] (0 + 1) (0 + 6) := ⟨e1, e2⟩
    have h3 := X.same.trans h2
    rw [List.append_nil] at h3
    exact h3.mono hc hs
  refine ⟨U, ?_, .threw T.heap.size, hrun, hend, Or.inr ⟨T.heap.size, rfl, cls, ce, locs, hx U hWs.alike f1 (fun q hq => f2 q hq (fun z hz => nomatch hz)), hce, hO.vm, hcl, hWs, hall, hf⟩⟩
  refine st1 _ ?_
  show Steps p.tables e below (T1.setTop { method := m, pc := pc + 3, locals := ls, stack := .ref T.heap.size :: rest, locked := none }) _
  jvm_step X₁.here [X₁.here.top, hexec, d3', Value.category]
  exact X₁.ldcStringW hexec (own := own) (text := text) (index := is) (a := sa) hown' hstr'.1 hstr'.2
    (g := { method := m, pc := pc + 4, locals := ls, stack := .ref T.heap.size :: .ref T.heap.size :: rest, locked := none }) rfl d4' _ hsteps
end Ends
section Bodies
variable {l : Launch}
theorem vx_ofW {y : MethodName} {ws ws' : List Cond} {rm : Room} {Pc : Array Value → State → Prop} {Qc : Array Value → State → Outcome → State → Prop} {XC : String → State → State → Prop} {mc ms : Nat} {free : Addr → Prop} {cc : ByteArray} {maxL : Nat} {ret : Option FieldType}
    (hy : plainName y.cls = true) (hw : ws = Cond.code y cc maxL ret :: ws')
    (body : ∀ p e s m args below meth c s₁, BodyLoose p l y (headSpec ws rm) cc maxL ret e s m args below meth c s₁ → c.maxLocals = maxL → (∀ x ∈ c.exceptionTable.toList, False) → Pc args s →
      W p l e (headSpec ws rm).room s m args below meth c s.heap [] 0 0 (vx_MQ below Qc XC args s mc ms free) (entryFrame m args maxL)) : vx_Met l y ws rm Pc Qc XC mc ms free := by
  refine MetFree.of_bodyS (code := cc) (maxLocals := maxL) (ret := ret) hy ?_ ?_
  · intro args s m h hn
    obtain ⟨meth, c, h1, h2, h3, h4, h5, h6, -, -⟩ := Cond.code_spec hn (atoms_spec (ws := ws) h _ (by rw [hw]; exact List.mem_cons_self))
    exact ⟨meth, c, h1, h2, h3, h4, h5, h6⟩
  · intro p e s m args below meth c s₁ B hml hP _
    have hh0 : s₁.heap = s.heap := by rw [B.state]; rfl
    have ht : ∀ x ∈ c.exceptionTable.toList, False := by
      obtain ⟨meth9, c9, h1, h2, -, -, -, -, h7, -⟩ := Cond.code_spec B.named (atoms_spec (ws := ws) B.pre _ (by rw [hw]; exact List.mem_cons_self))
      cases Option.some.inj (h1.symm.trans B.method)
      cases Option.some.inj (h2.symm.trans (Stand.of_body B).code)
      intro x hx
      rw [Array.isEmpty_iff.mp h7] at hx
      cases hx
    obtain ⟨t, a1, o, b1, b2, b3⟩ := body p e s m args below meth c s₁ B hml ht hP s₁ hh0 (Stand.of_body B)
    exact ⟨t, o, a1, b1, b2, b3⟩
/-- the table of a body with handlers -/
theorem vx_table {p : Program} {x y : MethodName} {S : Spec} {cc bytes : ByteArray} {maxL maxL' : Nat} {ret ret' : Option FieldType} {e : Env} {s s₁ : State} {m : MethodId} {args : Array Value} {below : List Frame} {meth : Method} {c : Code} {hh : List (Nat × Nat × Nat × Nat)}
    (B : BodyLoose p l y S cc maxL ret e s m args below meth c s₁) (h : (Cond.codeWith y bytes maxL' ret' hh).before args s = true) : c.exceptionTable.toList = tableOf hh := by
  obtain ⟨m9, meth9, c9, hn9, h1, h2, -, -, h6, -⟩ := Cond.codeWith_spec h
  cases Option.some.inj (hn9.symm.trans B.named)
  cases Option.some.inj (h1.symm.trans B.method)
  cases Option.some.inj (h2.symm.trans (Stand.of_body B).code)
  rw [← h6, table_eq]
end Bodies
end VXA
/-! ===== END ===== -/
/-! ===== BEGIN a static call of a method with an exception table ===== -/
section VXS
variable {p : Program} {l : Launch} {e : Env} {R : Room} {s : State} {m : MethodId} {args : Array Value} {below : List Frame} {meth : Method} {c : Code} {T : State} {H : Heap} {locs : List Loc} {cells slots : Nat}
abbrev vx_CSW (R : Room) (s : State) (args : Array Value) (own : String) (index : Nat) (y : MethodName) (bytes : ByteArray) (maxL : Nat) (ret : Option FieldType) (hh : List (Nat × Nat × Nat × Nat)) (ws : List Cond) (rm : Room) (mc ms n : Nat) : Prop :=
  (rm.cells = mc ∧ rm.slots = ms ∧ rm.frames + 1 ≤ R.frames ∧ 8 + (maxL + 11) + rm.locals ≤ R.locals ∧ (∀ w ∈ ws, ∀ (a' : Array Value) (U : State), s.WarmedH U.vm → w.before a' U = true) ∧ Cond.codeWith y bytes maxL ret hh ∈ ws) ∧
  (Cond.codeWith y bytes maxL ret hh).before args s = true ∧ (Cond.initialized y.cls).before args s = true ∧ (y.cls ≠ "java/lang/invoke/MethodHandle" ∧ y.cls ≠ "java/lang/invoke/VarHandle") ∧
  (∀ sig, parseMethodDescriptor y.desc = some sig → n = sig.parameters.length) ∧ (Cond.methodLink own index y).before args s = true ∧ (Cond.static y).before args s = true
theorem vx_cwSW {own : String} {index maxL mc ms : Nat} {y : MethodName} {bytes : ByteArray} {ret : Option FieldType} {hh : List (Nat × Nat × Nat × Nat)} {Ts ws ws' : List Cond} {rm : Room} (n : Nat) (ht : ∀ w ∈ Ts, w.before args s = true) (hT : GoodIn Ts (va_wsS own index y ws)) (hw : ws = Cond.codeWith y bytes maxL ret hh :: ws') (hrc : rm.cells = mc) (hrs : rm.slots = ms)
    (hd : y.cls ≠ "java/lang/invoke/MethodHandle" ∧ y.cls ≠ "java/lang/invoke/VarHandle" ∧ (parseMethodDescriptor y.desc).map (fun d => d.parameters.length) = some n) (hR : rm.frames + 1 ≤ R.frames ∧ 8 + (maxL + 11) + rm.locals ≤ R.locals) :
    vx_CSW R s args own index y bytes maxL ret hh ws rm mc ms n := by
  have ok : ∀ w ∈ va_wsS own index y ws, w.before args s = true := fun w h => ht w (hT w h).1
  have hG : GoodIn Ts ws := fun w h => hT w (by unfold va_wsS; exact List.mem_append_right _ h)
  have hc : Cond.codeWith y bytes maxL ret hh ∈ ws := by rw [hw]; exact List.mem_cons_self
  refine ⟨⟨hrc, hrs, hR.1, hR.2, pay_in ht hG, hc⟩, ht _ (hG _ hc).1, ok _ (by simp [va_wsS]), ⟨hd.1, hd.2.1⟩, fun sig h => ?_, ok _ (by simp [va_wsS]), ok _ (by simp [va_wsS])⟩
  have h2 := hd.2.2
  rw [h] at h2
  exact (Option.some.inj h2).symm
theorem vx_callSW (X : Stand p l e R s m args below meth c T locs cells slots) (hexec : p.tables.exec = Jvm.exec) {own : String} {index : Nat} {y : MethodName} {bytes : ByteArray} {maxL : Nat} {ret : Option FieldType} {hh : List (Nat × Nat × Nat × Nat)}
    (hown : s.vm.findClass own = some m.cls) (hlink : (Cond.methodLink own index y).before args s = true) (hstat : (Cond.static y).before args s = true) (hinit : (Cond.initialized y.cls).before args s = true)
    (hcode : (Cond.codeWith y bytes maxL ret hh).before args s = true) (hy : y.cls ≠ "java/lang/invoke/MethodHandle" ∧ y.cls ≠ "java/lang/invoke/VarHandle")
    {W9 : Nat} {Pre : Pt → Array Value → Prop} {Post : Pt → Array Value → Option Value → Pt → Prop} (hK : Back l R p e below s args y 3 W9 Pre Post)
    {g : JFrame} (hg : g.method = m) (hsize : g.locals.size = c.maxLocals) {argsL rest : List Value} (hlen : ∀ sig, parseMethodDescriptor y.desc = some sig → argsL.length = sig.parameters.length)
    (hstack : g.stack = argsL.reverse ++ rest) (hW : 2 * g.monitorRoom + (rest.map fun v => v.category).sum ≤ W9) (hdg : decode c.code g.pc = .ok (.invokestatic index, 3))
    (hpre : ∀ vm₁, s.WarmedH vm₁ → Pre ⟨T.setVm vm₁, locs, cells, slots⟩ argsL.toArray) :
    ∃ (v : Option Value) (vm₁ : Vm) (B : Pt), s.WarmedH vm₁ ∧ Stand p l e R s m args below meth c B.U B.locs B.cells B.slots ∧ Post ⟨T.setVm vm₁, locs, cells, slots⟩ argsL.toArray v B ∧
      ∀ target, Steps p.tables e below (B.U.setTop { g with pc := g.pc + 3, stack := v.toList ++ rest }) target → Steps p.tables e below (T.setTop g) target := by
  obtain ⟨mk, methM, cM, hnamed, hmethM, -, -, -, -, -, -, hsigM⟩ := Cond.codeWith_spec hcode
  have hstatic : methM.isStatic = true := Cond.static_spec hnamed hmethM hstat
  obtain ⟨kP, hkP, -⟩ := className_of_methodNamed hnamed
  have hinitP : kP.init = .initialized := Cond.initialized_spec (findClass_of_methodNamed hnamed) hkP hinit
  obtain ⟨vm₁, X₁, hstep₁⟩ := X.invokestatic hexec hown hlink hnamed hmethM hstatic hkP hinitP hy (g := g) hg (argsL := argsL) (rest := rest) (hlen _ hsigM) hstack hdg
  obtain ⟨v, B, X', hpost, hsteps⟩ := hK m meth c ⟨T.setVm vm₁, locs, cells, slots⟩ { g with stack := rest } (.invokestatic index) mk argsL.toArray X₁ hg hsize hdg hW (X₁.named hnamed) (hpre vm₁ X₁.warmed)
  exact ⟨v, vm₁, B, X₁.warmed, X', hpost, fun target h => hstep₁ _ fun acts => by rw [doInvoke_state]; exact hsteps.trans h⟩
theorem vx_runSW {y : MethodName} {bytes cc : ByteArray} {maxL nL mc ms n index : Nat} {ret : Option FieldType} {hh : List (Nat × Nat × Nat × Nat)} {ws : List Cond} {rm : Room} {Pc : Array Value → State → Prop} {Qc : Array Value → State → Outcome → State → Prop} {free : Addr → Prop} {Ts : List Cond} {own : String} {As rest : List Value} {g : JFrame}
    (S : CallFix p m c cc nL s args Ts own) (hM : Met l y ws rm Pc Qc mc ms free) (cw : vx_CSW R s args own index y bytes maxL ret hh ws rm mc ms n) (hp : PreS s H Pc As)
    (hg : g.method = m) (hn : As.length = n) (hsize : g.locals.size = nL) (hstack : g.stack = As.reverse ++ rest) (hW : 2 * g.monitorRoom + (rest.map fun v => v.category).sum ≤ 8) (hdg : decode cc g.pc = .ok (.invokestatic index, 3)) (hf : cells + mc ≤ R.cells ∧ slots + ms ≤ R.slots) :
    va_Run p l e R s m args below meth c H locs cells slots mc ms g rest (Qc As.toArray) (free) := by
  obtain ⟨⟨hrc, hrs, hfr, hlo, hws, hcw⟩, hcode, hini, hy, hlen, hl, hstt⟩ := cw
  have hK : Back l R p e below s args y 3 8 (PreOf R mc ms Pc) (PostOf Qc mc ms free) := va_backW (hh := hh) (bytes := bytes) (maxL := maxL) (ret := ret) hM hp.1 hrc hrs hfr hlo hws hcw (fun a' U hW => word_at hW (Or.inl (by first | rfl | simp [Cond.onTables, Cond.keeps, Cond.steady])) hini)
  obtain ⟨hx, hb, hml, ho, -⟩ := S
  intro T hT X
  obtain ⟨v, vm₁, ⟨U', l2, c2, s2⟩, hW₁, X', ⟨g', mk, t, L, e1, e2, hq, h1, hL, h2, h3⟩, st⟩ := vx_callSW X hx (hh := hh) (bytes := bytes) (maxL := maxL) (ret := ret) ho hl hstt hini hcode hy hK hg (hsize.trans hml.symm) (argsL := As) (rest := rest) (fun sig h => hn.trans (hlen sig h)) hstack hW (by rw [hb]; exact hdg)
    (fun vm₁ hW₁ => ⟨hf.1, hf.2, hp.2 (T.setVm vm₁) hT hW₁⟩)
  dsimp only [Pt.U, Pt.locs, Pt.cells, Pt.slots] at X' e1 e2 h1 h2 h3 st
  subst h1; subst h2; subst h3
  exact ⟨v, (T.setVm vm₁).calling g' mk As.toArray, t, U', L, hT, X', hL, e1, e2, hq, st⟩
/-- not caught here, past rows that name other classes: it goes on to the caller -/
theorem vx_outP {p : Program} {l : Launch} {e : Env} {R : Room} {s : State} {m : MethodId} {args : Array Value} {below : List Frame} {meth : Method} {c : Code} {H : Heap} {locs : List Loc} {cells slots : Nat} {free : Addr → Prop} {ls : Array Slot} {rest : List Value} {Qc : Array Value → State → Outcome → State → Prop} {XC : String → State → State → Prop}
    {pc : Nat} {own E : String} {ce : Cell} {q : Addr} {mc ms : Nat} (hown : s.vm.findClass own = some m.cls) (hlocks : meth.locks = false)
    (hpass : ∀ z ∈ c.exceptionTable.toList, covers z pc = false ∨ (z.catchType ≠ 0 ∧ ∃ nm : String, (Cond.classLink own z.catchType nm).before args s = true ∧ va_Nc E nm s)) (hcell : H[q]? = some ce) (hv : ce.vm = .none) (hcl : s.vm.findClass E = some ce.cls)
    (hx : ∀ t : State, t.heap = H → s.vm.Alike t.vm → XC E s t) (hf : ∀ z ∈ locs, free z.base) (hc : cells ≤ mc) (hs : slots ≤ ms) :
    vx_W p l e R s m args below meth c H locs cells slots (vx_MQ below Qc XC args s mc ms free) (F0 m pc ls rest) q := by
  intro T hT X
  have hpl : e.platform.magicAccessors = ({} : Platform).magicAccessors := by rw [X.admits.platform]
  obtain ⟨vm', hW', X', st⟩ := X.outThrough hlocks q (g := F0 m pc ls rest) rfl rfl rfl (cell := ce) (by rw [hT]; exact hcell) (by rw [hv]; rfl)
    (by obtain ⟨k9, h9, -⟩ := Vm.findClass_spec hcl; exact ⟨k9, h9⟩) (fun z hz => by
      rcases hpass z hz with h | ⟨hz0, nm, hl1, hn1⟩
      · exact Or.inl h
      · obtain ⟨c6, hc6, hcl6⟩ := Cond.classLink_spec hown hl1 e.platform hpl
        obtain ⟨a8, b8, h1, h2, h3⟩ := hn1
        cases Option.some.inj (h1.symm.trans hcl)
        cases Option.some.inj (h2.symm.trans hc6)
        exact Or.inr ⟨hz0, _, hcl6, h3⟩)
  obtain ⟨g₀, hfr⟩ := X'.frames_eq
  have hcell9 : ((T.setVm vm').setFrames (.throwing q :: below)).heap[q]? = some ce := by
    show T.heap[q]? = some ce
    rw [hT]; exact hcell
  have hend : Ended ((T.setVm vm').setFrames (.throwing q :: below)) below (.threw q) := State.frames_setFrames _ (State.cur_lt_of_frames hfr)
  refine ⟨(T.setVm vm').setFrames (.throwing q :: below), ?_, .threw q, X'.here.running, hend, Or.inr ⟨q, rfl, E, ce, locs, hx _ hT (X'.ends _).1.alike, hcell9, hv, hcl, (X'.ends _).1, (X'.ends _).2.mono hc hs, hf⟩⟩
  rw [X.pushThrowing_eq]
  exact st
/-- a thing of a world lies in the heap -/
theorem vx_lt {D : va_G} {cl : List vw_C} {ws : va_W} {H1 : Heap} (h : va_P D cl ws H1) {k : Nat} {q : Nat × va_E} (hk : ws[k]? = some q) : q.1 < H1.size := (h k q hk).lt
end VXS
/-! ===== END ===== -/
/-! ===== BEGIN methods with a table of their own: called by a name, returning or throwing ===== -/
section VXH
/-! vx_backW, vx_callVX, vx_callSX, vx_callVW, vx_runVW, vx_runVX, vx_runSX, vx_ofWH follow the same proofs as their sisters above (Free/Laws.lean, Shelf42/LK1.lean); vx_outP calls Shelf42/NT130.lean (outThrough). -/
section
variable {l : Launch} {R : Room} {p : Program} {e : Env} {below : List Frame} {s : State} {sargs : Array Value} {y : MethodName} {len W9 : Nat}
theorem vx_backW {ws : List Cond} {rm : Room} {Pc : Array Value → State → Prop} {Qc : Array Value → State → Outcome → State → Prop} {XC : String → State → State → Prop} {mc ms : Nat} {free : Addr → Prop} {bytes : ByteArray} {maxL : Nat} {ret : Option FieldType} {hh : List (Nat × Nat × Nat × Nat)}
    (hM : vx_Met l y ws rm Pc Qc XC mc ms free) (hblind : FrameBlind Pc) (hrc : rm.cells = mc) (hrs : rm.slots = ms)
    (hframes : rm.frames + 1 ≤ R.frames) (hlocals : W9 + (maxL + 11) + rm.locals ≤ R.locals)
    (hws : ∀ w ∈ ws, ∀ a' U, s.WarmedH U.vm → w.before a' U = true) (hcode : Cond.codeWith y bytes maxL ret hh ∈ ws) (hinit : ∀ a' U, s.WarmedH U.vm → (Cond.initialized y.cls).before a' U = true) :
    vx_Back l R p e below s sargs y len W9 (PreOf R mc ms Pc) (PostOf Qc mc ms free) (vx_Post XC mc ms free) := by
  intro m meth c A g ig mk a X hg hsize hdg hW hn hp
  have h1 : (headSpec ws rm).pre.before a A.U = true := atoms_intro fun w hw => hws w hw _ _ X.warmed
  have h2 : (Cond.codeWith y bytes maxL ret hh).before a A.U = true := hws _ hcode _ _ X.warmed
  have h3 : (Cond.initialized y.cls).before a A.U = true := hinit _ _ X.warmed
  have h4 : A.cells + (headSpec ws rm).room.cells ≤ R.cells := by rw [show (headSpec ws rm).room.cells = mc from hrc]; exact hp.1
  have h5 : A.slots + (headSpec ws rm).room.slots ≤ R.slots := by rw [show (headSpec ws rm).room.slots = ms from hrs]; exact hp.2.1
  have hPc : Pc a (A.U.calling g mk a) := hblind _ _ _ _ hp.2.2
  obtain ⟨U, Ls, c0, s0⟩ := A
  dsimp only [Pt.U, Pt.locs, Pt.cells, Pt.slots] at h1 h2 h3 h4 h5 X hn hPc ⊢
  obtain ⟨m9, methY, cY, hn9, hmY, hcY, -, hlY, -⟩ := Cond.codeWith_spec h2
  cases Option.some.inj (hn9.symm.trans hn)
  obtain ⟨kY, hkY, -⟩ := className_of_methodNamed hn
  have hinitY : kY.init = .initialized := Cond.initialized_spec (findClass_of_methodNamed hn) hkY h3
  have h : At U g.method c below := by rw [hg]; exact X.here
  have hlocals9 : W9 + (maxL + 11) + (headSpec ws rm).room.locals ≤ R.locals := hlocals
  have happ : (headSpec ws rm).appliesLoose y e.platform (U.calling g mk a) = true :=
    Spec.appliesLoose_calling (g := g) h hdg hn hkY hinitY
      (X.room_calling (g := g) (R' := (headSpec ws rm).room) hsize hmY hcY hframes (by rw [hlY]; omega) h4 h5) h1
  obtain ⟨mid, hmid⟩ := h.above
  have hfr : (U.setTop g).frames = (.java g :: mid) ++ below := by rw [State.frames_setTop' g h.top, hmid]; rfl
  obtain ⟨o, s₂, hsteps, -, hend, hq⟩ := Steps.callFree hM p X.admits X.cas X.clock (acts := []) hfr happ hPc trivial
  have hq' : vx_Q Qc XC mc ms free a (U.calling g mk a) o s₂ := hq
  rw [State.frames_setTop' g h.top] at hend
  obtain ⟨g₀, hg0⟩ := Option.isSome_iff_exists.mp h.top
  obtain ⟨r, hr⟩ := State.topJava?_eq_some.mp hg0
  have hr' : (({ U with heap := s₂.heap, slotsUsed := s₂.slotsUsed } : State).setVm s₂.vm).frames = .java g₀ :: r := hr
  rcases hq' with ⟨hqc, L, hfe, hL⟩ | ⟨q, rfl, E, ce, L, hx, hce, hcv, hcl, hW₂, hsm, hL⟩
  · obtain ⟨⟨v, rfl⟩, hW₂, e2, q2, q3, q4, q5, q6⟩ := id hfe
    have e3 : s₂ = ({ (U.calling g mk a).setFrames s₂.frames with heap := s₂.heap, slotsUsed := s₂.slotsUsed } : State).setVm s₂.vm := by
      have : s₂ = ({ s₂ with vm := (U.calling g mk a).vm } : State).setVm s₂.vm := rfl
      rw [e2] at this
      exact this
    obtain ⟨c₂, i₂, len₂, hc₂, hd₂, hf₂⟩ := hend
    have hW' : U.WarmedH s₂.vm := hW₂
    have hcc : c₂ = c := by
      have h1 : s₂.code? g.method = U.code? g.method := by
        rw [State.code?_eq, State.code?_eq, hW'.alike.method?]
      exact Option.some.inj (hc₂.symm.trans (h1.trans h.code))
    subst hcc
    have hlen : len₂ = len := by rw [hdg] at hd₂; cases hd₂; rfl
    subst hlen
    have hs₂ : s₂ = (({ U with heap := s₂.heap, slotsUsed := s₂.slotsUsed } : State).setVm s₂.vm).setTop { g with pc := g.pc + len₂, stack := v.toList ++ g.stack } := by
      refine e3.trans ?_
      rw [hf₂, State.calling_eq h.top, State.setFrames_setFrames, State.setTop_of_frames _ hr', hr]
      rfl
    have hsame : U.sameButNew ({ U with heap := s₂.heap, slotsUsed := s₂.slotsUsed } : State) L mc ms := by
      refine ⟨?_, q2, q3, q4, q5, q6⟩
      obtain ⟨t, ht, -⟩ := State.frames_cons hr
      show ({ U with heap := s₂.heap, slotsUsed := s₂.slotsUsed } : State) = { U.setFrames U.frames with heap := s₂.heap, slotsUsed := s₂.slotsUsed }
      rw [State.setFrames_self ht]
    subst hg
    refine Or.inl ⟨v, ⟨(({ U with heap := s₂.heap, slotsUsed := s₂.slotsUsed } : State).setVm s₂.vm), Ls ++ L, c0 + mc, s0 + ms⟩,
      ⟨X.admits, X.cas, X.clock, X.frames, X.room, X.hears, X.method, X.code, (X.here.setHeapUsed s₂.heap s₂.slotsUsed).setVm hW'.alike, X.tail, State.WarmedH.trans X.warmed hW', X.limits, X.bytes, X.same.trans (hsame.setVm s.vm)⟩,
      ⟨g, mk, s₂, L, rfl, rfl, hqc, rfl, hL, rfl, rfl⟩, ?_⟩
    show Steps p.tables e below _ ((({ U with heap := s₂.heap, slotsUsed := s₂.slotsUsed } : State).setVm s₂.vm).setTop { g with pc := g.pc + len₂, stack := v.toList ++ g.stack })
    rw [← hs₂]
    exact hsteps
  · obtain ⟨e2, q2, q3, q4, q5, q6⟩ := id hsm
    have e3 : s₂ = ({ (U.calling g mk a).setFrames s₂.frames with heap := s₂.heap, slotsUsed := s₂.slotsUsed } : State).setVm s₂.vm := by
      have : s₂ = ({ s₂ with vm := (U.calling g mk a).vm } : State).setVm s₂.vm := rfl
      rw [e2] at this
      exact this
    have hf₂ : s₂.frames = .throwing q :: .java g :: U.frames.tail := hend
    have hW' : U.WarmedH s₂.vm := hW₂
    have hs₂ : s₂ = ((({ U with heap := s₂.heap, slotsUsed := s₂.slotsUsed } : State).setVm s₂.vm).setTop g).pushFrame (.throwing q) := by
      refine e3.trans ?_
      rw [hf₂, State.calling_eq h.top, State.setFrames_setFrames, State.pushFrame, State.frames_setTop _ hr', State.setTop_of_frames _ hr', State.setFrames_setFrames, hr]
      rfl
    have hsame : U.sameButNew ({ U with heap := s₂.heap, slotsUsed := s₂.slotsUsed } : State) L mc ms := by
      refine ⟨?_, q2, q3, q4, q5, q6⟩
      obtain ⟨t, ht, -⟩ := State.frames_cons hr
      show ({ U with heap := s₂.heap, slotsUsed := s₂.slotsUsed } : State) = { U.setFrames U.frames with heap := s₂.heap, slotsUsed := s₂.slotsUsed }
      rw [State.setFrames_self ht]
    subst hg
    refine Or.inr ⟨q, ⟨(({ U with heap := s₂.heap, slotsUsed := s₂.slotsUsed } : State).setVm s₂.vm), Ls ++ L, c0 + mc, s0 + ms⟩,
      ⟨X.admits, X.cas, X.clock, X.frames, X.room, X.hears, X.method, X.code, (X.here.setHeapUsed s₂.heap s₂.slotsUsed).setVm hW'.alike, X.tail, State.WarmedH.trans X.warmed hW', X.limits, X.bytes, X.same.trans (hsame.setVm s.vm)⟩,
      ⟨g, mk, s₂, L, E, ce, rfl, rfl, hx, hce, hcv, hcl, rfl, hL, rfl, rfl⟩, ?_⟩
    show Steps p.tables e below _ (((({ U with heap := s₂.heap, slotsUsed := s₂.slotsUsed } : State).setVm s₂.vm).setTop g).pushFrame (.throwing q))
    rw [← hs₂]
    exact hsteps
end
variable {p : Program} {l : Launch} {e : Env} {R : Room} {s : State} {m : MethodId} {args : Array Value} {below : List Frame} {meth : Method} {c : Code} {T : State} {H : Heap} {locs : List Loc} {cells slots : Nat}
theorem vx_callVX (X : Stand p l e R s m args below meth c T locs cells slots) (hexec : p.tables.exec = Jvm.exec) {own C : String} {index : Nat} {y : MethodName} {bytes : ByteArray} {maxL : Nat} {ret : Option FieldType} {hh : List (Nat × Nat × Nat × Nat)}
    (hown : s.vm.findClass own = some m.cls) (hlink : (Cond.methodLink own index y).before args s = true) (hinst : (Cond.instanceMethod y).before args s = true) (hsel : (Cond.selects C y y).before args s = true)
    (hcode : (Cond.codeWith y bytes maxL ret hh).before args s = true) (hy : y.cls ≠ "java/lang/invoke/MethodHandle" ∧ y.cls ≠ "java/lang/invoke/VarHandle")
    {W9 : Nat} {Pre : Pt → Array Value → Prop} {Post : Pt → Array Value → Option Value → Pt → Prop} {PostX : Pt → Array Value → Addr → Pt → Prop} (hK : vx_Back l R p e below s args y 3 W9 Pre Post PostX)
    {b : Addr} {cellB : Cell} (hcell : T.heap[b]? = some cellB) (hobj : cellB.vm.isStatics = false) (hcls : s.vm.findClass C = some cellB.cls)
    {g : JFrame} (hg : g.method = m) (hsize : g.locals.size = c.maxLocals) {argsL rest : List Value} (hlen : ∀ sig, parseMethodDescriptor y.desc = some sig → argsL.length = sig.parameters.length)
    (hstack : g.stack = argsL.reverse ++ .ref b :: rest) (hW : 2 * g.monitorRoom + (rest.map fun v => v.category).sum ≤ W9) (hdg : decode c.code g.pc = .ok (.invokevirtual index, 3))
    (hpre : ∀ vm₁, s.WarmedH vm₁ → Pre ⟨T.setVm vm₁, locs, cells, slots⟩ (Value.ref b :: argsL).toArray) :
    (∃ (v : Option Value) (vm₁ : Vm) (B : Pt), s.WarmedH vm₁ ∧ Stand p l e R s m args below meth c B.U B.locs B.cells B.slots ∧ Post ⟨T.setVm vm₁, locs, cells, slots⟩ (Value.ref b :: argsL).toArray v B ∧
      ∀ target, Steps p.tables e below (B.U.setTop { g with pc := g.pc + 3, stack := v.toList ++ rest }) target → Steps p.tables e below (T.setTop g) target) ∨
    (∃ (q : Addr) (vm₁ : Vm) (B : Pt), s.WarmedH vm₁ ∧ Stand p l e R s m args below meth c B.U B.locs B.cells B.slots ∧ PostX ⟨T.setVm vm₁, locs, cells, slots⟩ (Value.ref b :: argsL).toArray q B ∧
      Steps p.tables e below (T.setTop g) ((B.U.setTop { g with stack := rest }).pushFrame (.throwing q))) := by
  obtain ⟨mk, methM, hnamed, hmethM, hstM, habM⟩ := Cond.instanceMethod_spec hinst
  obtain ⟨m8, methM', cM, hn8, hmethM', -, -, -, -, -, -, hsigM⟩ := Cond.codeWith_spec hcode
  cases Option.some.inj (hn8.symm.trans hnamed)
  cases hmethM.symm.trans hmethM'
  obtain ⟨c2, r2, m2, q1, q2, q3, q4, kP, hkP, hkPi⟩ := Cond.selects_spec hsel
  cases hcls.symm.trans q1
  cases (State.methodFound?_of_named hnamed hy).symm.trans q2
  cases hnamed.symm.trans q3
  have hselP : selectMethod e.platform s.vm cellB.cls mk = .method mk := by rw [Launch.admits_selectMethod X.admits]; exact q4
  obtain ⟨vm₁, X₁, hstep₁⟩ := X.invokevirtual hexec hown hlink hnamed hmethM hstM hkP hkPi hy (a := b) (cell := cellB) hcell
    (fun z h => by rw [h] at hobj; cases hobj) hselP hmethM habM hkP hkPi (g := g) hg (argsL := argsL) (rest := rest) (hlen _ hsigM) hstack hdg
  rcases hK m meth c ⟨T.setVm vm₁, locs, cells, slots⟩ { g with stack := rest } (.invokevirtual index) mk (Value.ref b :: argsL).toArray X₁ hg hsize hdg hW (X₁.named hnamed) (hpre vm₁ X₁.warmed) with ⟨v, B, X', hpost, hsteps⟩ | ⟨q, B, X', hpost, hsteps⟩
  · exact Or.inl ⟨v, vm₁, B, X₁.warmed, X', hpost, fun target h => hstep₁ _ fun acts => by rw [doInvoke_state]; exact hsteps.trans h⟩
  · exact Or.inr ⟨q, vm₁, B, X₁.warmed, X', hpost, hstep₁ _ fun acts => by rw [doInvoke_state]; exact hsteps⟩
theorem vx_callSX (X : Stand p l e R s m args below meth c T locs cells slots) (hexec : p.tables.exec = Jvm.exec) {own : String} {index : Nat} {y : MethodName} {bytes : ByteArray} {maxL : Nat} {ret : Option FieldType} {hh : List (Nat × Nat × Nat × Nat)}
    (hown : s.vm.findClass own = some m.cls) (hlink : (Cond.methodLink own index y).before args s = true) (hstat : (Cond.static y).before args s = true) (hinit : (Cond.initialized y.cls).before args s = true)
    (hcode : (Cond.codeWith y bytes maxL ret hh).before args s = true) (hy : y.cls ≠ "java/lang/invoke/MethodHandle" ∧ y.cls ≠ "java/lang/invoke/VarHandle")
    {W9 : Nat} {Pre : Pt → Array Value → Prop} {Post : Pt → Array Value → Option Value → Pt → Prop} {PostX : Pt → Array Value → Addr → Pt → Prop} (hK : vx_Back l R p e below s args y 3 W9 Pre Post PostX)
    {g : JFrame} (hg : g.method = m) (hsize : g.locals.size = c.maxLocals) {argsL rest : List Value} (hlen : ∀ sig, parseMethodDescriptor y.desc = some sig → argsL.length = sig.parameters.length)
    (hstack : g.stack = argsL.reverse ++ rest) (hW : 2 * g.monitorRoom + (rest.map fun v => v.category).sum ≤ W9) (hdg : decode c.code g.pc = .ok (.invokestatic index, 3))
    (hpre : ∀ vm₁, s.WarmedH vm₁ → Pre ⟨T.setVm vm₁, locs, cells, slots⟩ argsL.toArray) :
    (∃ (v : Option Value) (vm₁ : Vm) (B : Pt), s.WarmedH vm₁ ∧ Stand p l e R s m args below meth c B.U B.locs B.cells B.slots ∧ Post ⟨T.setVm vm₁, locs, cells, slots⟩ argsL.toArray v B ∧
      ∀ target, Steps p.tables e below (B.U.setTop { g with pc := g.pc + 3, stack := v.toList ++ rest }) target → Steps p.tables e below (T.setTop g) target) ∨
    (∃ (q : Addr) (vm₁ : Vm) (B : Pt), s.WarmedH vm₁ ∧ Stand p l e R s m args below meth c B.U B.locs B.cells B.slots ∧ PostX ⟨T.setVm vm₁, locs, cells, slots⟩ argsL.toArray q B ∧
      Steps p.tables e below (T.setTop g) ((B.U.setTop { g with stack := rest }).pushFrame (.throwing q))) := by
  obtain ⟨mk, methM, cM, hnamed, hmethM, -, -, -, -, -, -, hsigM⟩ := Cond.codeWith_spec hcode
  have hstatic : methM.isStatic = true := Cond.static_spec hnamed hmethM hstat
  obtain ⟨kP, hkP, -⟩ := className_of_methodNamed hnamed
  have hinitP : kP.init = .initialized := Cond.initialized_spec (findClass_of_methodNamed hnamed) hkP hinit
  obtain ⟨vm₁, X₁, hstep₁⟩ := X.invokestatic hexec hown hlink hnamed hmethM hstatic hkP hinitP hy (g := g) hg (argsL := argsL) (rest := rest) (hlen _ hsigM) hstack hdg
  rcases hK m meth c ⟨T.setVm vm₁, locs, cells, slots⟩ { g with stack := rest } (.invokestatic index) mk argsL.toArray X₁ hg hsize hdg hW (X₁.named hnamed) (hpre vm₁ X₁.warmed) with ⟨v, B, X', hpost, hsteps⟩ | ⟨q, B, X', hpost, hsteps⟩
  · exact Or.inl ⟨v, vm₁, B, X₁.warmed, X', hpost, fun target h => hstep₁ _ fun acts => by rw [doInvoke_state]; exact hsteps.trans h⟩
  · exact Or.inr ⟨q, vm₁, B, X₁.warmed, X', hpost, hstep₁ _ fun acts => by rw [doInvoke_state]; exact hsteps⟩
theorem vx_callVW (X : Stand p l e R s m args below meth c T locs cells slots) (hexec : p.tables.exec = Jvm.exec) {own C : String} {index : Nat} {y : MethodName} {bytes : ByteArray} {maxL : Nat} {ret : Option FieldType} {hh : List (Nat × Nat × Nat × Nat)}
    (hown : s.vm.findClass own = some m.cls) (hlink : (Cond.methodLink own index y).before args s = true) (hinst : (Cond.instanceMethod y).before args s = true) (hsel : (Cond.selects C y y).before args s = true)
    (hcode : (Cond.codeWith y bytes maxL ret hh).before args s = true) (hy : y.cls ≠ "java/lang/invoke/MethodHandle" ∧ y.cls ≠ "java/lang/invoke/VarHandle")
    {W9 : Nat} {Pre : Pt → Array Value → Prop} {Post : Pt → Array Value → Option Value → Pt → Prop} (hK : Back l R p e below s args y 3 W9 Pre Post)
    {b : Addr} {cellB : Cell} (hcell : T.heap[b]? = some cellB) (hobj : cellB.vm.isStatics = false) (hcls : s.vm.findClass C = some cellB.cls)
    {g : JFrame} (hg : g.method = m) (hsize : g.locals.size = c.maxLocals) {argsL rest : List Value} (hlen : ∀ sig, parseMethodDescriptor y.desc = some sig → argsL.length = sig.parameters.length)
    (hstack : g.stack = argsL.reverse ++ .ref b :: rest) (hW : 2 * g.monitorRoom + (rest.map fun v => v.category).sum ≤ W9) (hdg : decode c.code g.pc = .ok (.invokevirtual index, 3))
    (hpre : ∀ vm₁, s.WarmedH vm₁ → Pre ⟨T.setVm vm₁, locs, cells, slots⟩ (Value.ref b :: argsL).toArray) :
    ∃ (v : Option Value) (vm₁ : Vm) (B : Pt), s.WarmedH vm₁ ∧ Stand p l e R s m args below meth c B.U B.locs B.cells B.slots ∧ Post ⟨T.setVm vm₁, locs, cells, slots⟩ (Value.ref b :: argsL).toArray v B ∧
      ∀ target, Steps p.tables e below (B.U.setTop { g with pc := g.pc + 3, stack := v.toList ++ rest }) target → Steps p.tables e below (T.setTop g) target := by
  obtain ⟨mk, methM, hnamed, hmethM, hstM, habM⟩ := Cond.instanceMethod_spec hinst
  obtain ⟨m8, methM', cM, hn8, hmethM', -, -, -, -, -, -, hsigM⟩ := Cond.codeWith_spec hcode
  cases Option.some.inj (hn8.symm.trans hnamed)
  cases hmethM.symm.trans hmethM'
  obtain ⟨c2, r2, m2, q1, q2, q3, q4, kP, hkP, hkPi⟩ := Cond.selects_spec hsel
  cases hcls.symm.trans q1
  cases (State.methodFound?_of_named hnamed hy).symm.trans q2
  cases hnamed.symm.trans q3
  have hselP : selectMethod e.platform s.vm cellB.cls mk = .method mk := by rw [Launch.admits_selectMethod X.admits]; exact q4
  obtain ⟨vm₁, X₁, hstep₁⟩ := X.invokevirtual hexec hown hlink hnamed hmethM hstM hkP hkPi hy (a := b) (cell := cellB) hcell
    (fun z h => by rw [h] at hobj; cases hobj) hselP hmethM habM hkP hkPi (g := g) hg (argsL := argsL) (rest := rest) (hlen _ hsigM) hstack hdg
  obtain ⟨v, B, X', hpost, hsteps⟩ := hK m meth c ⟨T.setVm vm₁, locs, cells, slots⟩ { g with stack := rest } (.invokevirtual index) mk (Value.ref b :: argsL).toArray X₁ hg hsize hdg hW (X₁.named hnamed) (hpre vm₁ X₁.warmed)
  exact ⟨v, vm₁, B, X₁.warmed, X', hpost, fun target h => hstep₁ _ fun acts => by rw [doInvoke_state]; exact hsteps.trans h⟩
abbrev vx_CVW (R : Room) (s : State) (args : Array Value) (own C : String) (index : Nat) (y : MethodName) (bytes : ByteArray) (maxL : Nat) (ret : Option FieldType) (hh : List (Nat × Nat × Nat × Nat)) (ws : List Cond) (rm : Room) (mc ms n : Nat) : Prop :=
  (rm.cells = mc ∧ rm.slots = ms ∧ rm.frames + 1 ≤ R.frames ∧ 8 + (maxL + 11) + rm.locals ≤ R.locals ∧ (∀ w ∈ ws, ∀ (a' : Array Value) (U : State), s.WarmedH U.vm → w.before a' U = true) ∧ Cond.codeWith y bytes maxL ret hh ∈ ws) ∧
  (Cond.codeWith y bytes maxL ret hh).before args s = true ∧ (Cond.initialized y.cls).before args s = true ∧ (y.cls ≠ "java/lang/invoke/MethodHandle" ∧ y.cls ≠ "java/lang/invoke/VarHandle") ∧
  (∀ sig, parseMethodDescriptor y.desc = some sig → n = sig.parameters.length) ∧ (Cond.methodLink own index y).before args s = true ∧ (Cond.instanceMethod y).before args s = true ∧ (Cond.selects C y y).before args s = true
theorem vx_cwVW {own C : String} {index maxL mc ms : Nat} {y : MethodName} {bytes : ByteArray} {ret : Option FieldType} {hh : List (Nat × Nat × Nat × Nat)} {Ts ws ws' : List Cond} {rm : Room} (n : Nat) (ht : ∀ w ∈ Ts, w.before args s = true) (hT : GoodIn Ts (wsV own index C y ws)) (hw : ws = Cond.codeWith y bytes maxL ret hh :: ws') (hrc : rm.cells = mc) (hrs : rm.slots = ms)
    (hd : y.cls = C ∧ y.cls ≠ "java/lang/invoke/MethodHandle" ∧ y.cls ≠ "java/lang/invoke/VarHandle" ∧ (parseMethodDescriptor y.desc).map (fun d => d.parameters.length) = some n) (hR : rm.frames + 1 ≤ R.frames ∧ 8 + (maxL + 11) + rm.locals ≤ R.locals) :
    vx_CVW R s args own C index y bytes maxL ret hh ws rm mc ms n := by
  obtain ⟨hC, hd⟩ := hd
  subst hC
  have ok : ∀ w ∈ wsV own index y.cls y ws, w.before args s = true := fun w h => ht w (hT w h).1
  have hG : GoodIn Ts ws := fun w h => hT w (by unfold wsV; exact List.mem_append_right _ h)
  have hc : Cond.codeWith y bytes maxL ret hh ∈ ws := by rw [hw]; exact List.mem_cons_self
  refine ⟨⟨hrc, hrs, hR.1, hR.2, pay_in ht hG, hc⟩, ht _ (hG _ hc).1, ok _ (by simp [wsV]), ⟨hd.1, hd.2.1⟩, fun sig h => ?_, ok _ (by simp [wsV]), ok _ (by simp [wsV]), ok _ (by simp [wsV])⟩
  have h2 := hd.2.2
  rw [h] at h2
  exact (Option.some.inj h2).symm
theorem vx_runVW {y : MethodName} {bytes cc : ByteArray} {maxL nL mc ms n index : Nat} {ret : Option FieldType} {hh : List (Nat × Nat × Nat × Nat)} {ws : List Cond} {rm : Room} {Pc : Array Value → State → Prop} {Qc : Array Value → State → Outcome → State → Prop} {free : Addr → Prop} {Ts : List Cond} {own C : String} {b : Addr} {As rest : List Value} {g : JFrame}
    (S : CallFix p m c cc nL s args Ts own) (hM : Met l y ws rm Pc Qc mc ms free) (cw : vx_CVW R s args own C index y bytes maxL ret hh ws rm mc ms n) (hp : PreV s H C b Pc As)
    (hg : g.method = m) (hn : As.length = n) (hsize : g.locals.size = nL) (hstack : g.stack = As.reverse ++ .ref b :: rest) (hW : 2 * g.monitorRoom + (rest.map fun v => v.category).sum ≤ 8) (hdg : decode cc g.pc = .ok (.invokevirtual index, 3)) (hf : cells + mc ≤ R.cells ∧ slots + ms ≤ R.slots) :
    va_Run p l e R s m args below meth c H locs cells slots mc ms g rest (Qc (Value.ref b :: As).toArray) free := by
  obtain ⟨⟨hrc, hrs, hfr, hlo, hws, hcw⟩, hcode, hini, hy, hlen, hl, hin, hse⟩ := cw
  have hK : Back l R p e below s args y 3 8 (PreOf R mc ms Pc) (PostOf Qc mc ms free) := va_backW (hh := hh) (bytes := bytes) (maxL := maxL) (ret := ret) hM hp.1 hrc hrs hfr hlo hws hcw (fun a' U hW => word_at hW (Or.inl (by first | rfl | simp [Cond.onTables, Cond.keeps, Cond.steady])) hini)
  obtain ⟨hx, hb, hml, ho, -⟩ := S
  obtain ⟨-, ⟨cellB, hcB, hoB, hclB⟩, hPc⟩ := hp
  intro T hT X
  obtain ⟨v, vm₁, ⟨U', l2, c2, s2⟩, hW₁, X', ⟨g', mk, t, L, e1, e2, hq, h1, hL, h2, h3⟩, st⟩ := vx_callVW X hx (C := C) (hh := hh) (bytes := bytes) (maxL := maxL) (ret := ret) ho hl hin hse hcode hy hK (by rw [hT]; exact hcB) hoB hclB hg (hsize.trans hml.symm) (argsL := As) (rest := rest) (fun sig h => hn.trans (hlen sig h)) hstack hW (by rw [hb]; exact hdg)
    (fun vm₁ hW₁ => ⟨hf.1, hf.2, hPc (T.setVm vm₁) hT hW₁⟩)
  dsimp only [Pt.U, Pt.locs, Pt.cells, Pt.slots] at X' e1 e2 h1 h2 h3 st
  subst h1; subst h2; subst h3
  exact ⟨v, (T.setVm vm₁).calling g' mk (Value.ref b :: As).toArray, t, U', L, hT, X', hL, e1, e2, hq, st⟩
section
variable {y : MethodName} {bytes cc : ByteArray} {maxL nL mc ms n index : Nat} {ret : Option FieldType} {ws : List Cond} {rm : Room} {Pc : Array Value → State → Prop} {Qc : Array Value → State → Outcome → State → Prop} {XC : String → State → State → Prop} {free : Addr → Prop} {Ts : List Cond} {own C : String} {b : Addr} {As rest : List Value} {g : JFrame}
theorem vx_runVX {hh : List (Nat × Nat × Nat × Nat)} (S : CallFix p m c cc nL s args Ts own) (hM : vx_Met l y ws rm Pc Qc XC mc ms free) (cw : vx_CVW R s args own C index y bytes maxL ret hh ws rm mc ms n) (hp : PreV s H C b Pc As)
    (hg : g.method = m) (hn : As.length = n) (hsize : g.locals.size = nL) (hstack : g.stack = As.reverse ++ .ref b :: rest) (hW : 2 * g.monitorRoom + (rest.map fun v => v.category).sum ≤ 8) (hdg : decode cc g.pc = .ok (.invokevirtual index, 3)) (hf : cells + mc ≤ R.cells ∧ slots + ms ≤ R.slots) :
    vx_Run p l e R s m args below meth c H locs cells slots mc ms g rest (Qc (Value.ref b :: As).toArray) XC free := by
  obtain ⟨⟨hrc, hrs, hfr, hlo, hws, hcw⟩, hcode, hini, hy, hlen, hl, hin, hse⟩ := cw
  have hK : vx_Back l R p e below s args y 3 8 (PreOf R mc ms Pc) (PostOf Qc mc ms free) (vx_Post XC mc ms free) := vx_backW (hh := hh) (bytes := bytes) (maxL := maxL) (ret := ret) hM hp.1 hrc hrs hfr hlo hws hcw (fun a' U hW => word_at hW (Or.inl (by first | rfl | simp [Cond.onTables, Cond.keeps, Cond.steady])) hini)
  obtain ⟨hx, hb, hml, ho, -⟩ := S
  obtain ⟨-, ⟨cellB, hcB, hoB, hclB⟩, hPc⟩ := hp
  intro T hT X
  rcases vx_callVX X hx (C := C) (hh := hh) (bytes := bytes) (maxL := maxL) (ret := ret) ho hl hin hse hcode hy hK (by rw [hT]; exact hcB) hoB hclB hg (hsize.trans hml.symm) (argsL := As) (rest := rest) (fun sig h => hn.trans (hlen sig h)) hstack hW (by rw [hb]; exact hdg)
    (fun vm₁ hW₁ => ⟨hf.1, hf.2, hPc (T.setVm vm₁) hT hW₁⟩) with ⟨v, vm₁, ⟨U', l2, c2, s2⟩, hW₁, X', ⟨g', mk, t, L, e1, e2, hq, h1, hL, h2, h3⟩, st⟩ | ⟨q, vm₁, ⟨U', l2, c2, s2⟩, hW₁, X', ⟨g', mk, t, L, E, ce, e1, e2, hq, hce, hcv, hcl, h1, hL, h2, h3⟩, st⟩
  · dsimp only [Pt.U, Pt.locs, Pt.cells, Pt.slots] at X' e1 e2 h1 h2 h3 st
    subst h1; subst h2; subst h3
    exact Or.inl ⟨v, (T.setVm vm₁).calling g' mk (Value.ref b :: As).toArray, t, U', L, hT, X', hL, e1, e2, hq, st⟩
  · dsimp only [Pt.U, Pt.locs, Pt.cells, Pt.slots] at X' e1 e2 h1 h2 h3 st hcl
    subst h1; subst h2; subst h3
    exact Or.inr ⟨q, (T.setVm vm₁).calling g' mk (Value.ref b :: As).toArray, t, U', L, E, ce, hT, X', hL, e1, e2, hq, hce, hcv, vx_cls hW₁ hcl, st⟩
theorem vx_runSX {hh : List (Nat × Nat × Nat × Nat)} (S : CallFix p m c cc nL s args Ts own) (hM : vx_Met l y ws rm Pc Qc XC mc ms free) (cw : vx_CSW R s args own index y bytes maxL ret hh ws rm mc ms n) (hp : PreS s H Pc As)
    (hg : g.method = m) (hn : As.length = n) (hsize : g.locals.size = nL) (hstack : g.stack = As.reverse ++ rest) (hW : 2 * g.monitorRoom + (rest.map fun v => v.category).sum ≤ 8) (hdg : decode cc g.pc = .ok (.invokestatic index, 3)) (hf : cells + mc ≤ R.cells ∧ slots + ms ≤ R.slots) :
    vx_Run p l e R s m args below meth c H locs cells slots mc ms g rest (Qc As.toArray) XC free := by
  obtain ⟨⟨hrc, hrs, hfr, hlo, hws, hcw⟩, hcode, hini, hy, hlen, hl, hstt⟩ := cw
  have hK : vx_Back l R p e below s args y 3 8 (PreOf R mc ms Pc) (PostOf Qc mc ms free) (vx_Post XC mc ms free) := vx_backW (hh := hh) (bytes := bytes) (maxL := maxL) (ret := ret) hM hp.1 hrc hrs hfr hlo hws hcw (fun a' U hW => word_at hW (Or.inl (by first | rfl | simp [Cond.onTables, Cond.keeps, Cond.steady])) hini)
  obtain ⟨hx, hb, hml, ho, -⟩ := S
  intro T hT X
  rcases vx_callSX X hx (hh := hh) (bytes := bytes) (maxL := maxL) (ret := ret) ho hl hstt hini hcode hy hK hg (hsize.trans hml.symm) (argsL := As) (rest := rest) (fun sig h => hn.trans (hlen sig h)) hstack hW (by rw [hb]; exact hdg)
    (fun vm₁ hW₁ => ⟨hf.1, hf.2, hp.2 (T.setVm vm₁) hT hW₁⟩) with ⟨v, vm₁, ⟨U', l2, c2, s2⟩, hW₁, X', ⟨g', mk, t, L, e1, e2, hq, h1, hL, h2, h3⟩, st⟩ | ⟨q, vm₁, ⟨U', l2, c2, s2⟩, hW₁, X', ⟨g', mk, t, L, E, ce, e1, e2, hq, hce, hcv, hcl, h1, hL, h2, h3⟩, st⟩
  · dsimp only [Pt.U, Pt.locs, Pt.cells, Pt.slots] at X' e1 e2 h1 h2 h3 st
    subst h1; subst h2; subst h3
    exact Or.inl ⟨v, (T.setVm vm₁).calling g' mk As.toArray, t, U', L, hT, X', hL, e1, e2, hq, st⟩
  · dsimp only [Pt.U, Pt.locs, Pt.cells, Pt.slots] at X' e1 e2 h1 h2 h3 st hcl
    subst h1; subst h2; subst h3
    exact Or.inr ⟨q, (T.setVm vm₁).calling g' mk As.toArray, t, U', L, E, ce, hT, X', hL, e1, e2, hq, hce, hcv, vx_cls hW₁ hcl, st⟩
end
end VXH
theorem vx_ofWH {l : Launch} {y : MethodName} {ws ws' : List Cond} {rm : Room} {Pc : Array Value → State → Prop} {Qc : Array Value → State → Outcome → State → Prop} {XC : String → State → State → Prop} {mc ms : Nat} {free : Addr → Prop} {cc : ByteArray} {maxL : Nat} {ret : Option FieldType} {hh : List (Nat × Nat × Nat × Nat)}
    (hy : plainName y.cls = true) (hw : ws = Cond.codeWith y cc maxL ret hh :: ws')
    (body : ∀ p e s m args below meth c s₁, BodyLoose p l y (headSpec ws rm) cc maxL ret e s m args below meth c s₁ → c.maxLocals = maxL → Pc args s →
      W p l e (headSpec ws rm).room s m args below meth c s.heap [] 0 0 (vx_MQ below Qc XC args s mc ms free) (entryFrame m args maxL)) : vx_Met l y ws rm Pc Qc XC mc ms free := by
  refine MetFree.of_bodyS (code := cc) (maxLocals := maxL) (ret := ret) hy ?_ ?_
  · intro args s m h hn
    obtain ⟨m9, meth, c, hn9, h1, h2, h3, h4, -, h5, h6, -⟩ := Cond.codeWith_spec (atoms_spec (ws := ws) h _ (by rw [hw]; exact List.mem_cons_self))
    cases hn.symm.trans hn9
    exact ⟨meth, c, h1, h2, h3, h4, h5, h6⟩
  · intro p e s m args below meth c s₁ B hml hP _
    have hh0 : s₁.heap = s.heap := by rw [B.state]; rfl
    obtain ⟨t, a1, o, b1, b2, b3⟩ := body p e s m args below meth c s₁ B hml hP s₁ hh0 (Stand.of_body B)
    exact ⟨t, o, a1, b1, b2, b3⟩
/-! ===== END ===== -/
/-! ===== BEGIN what the machine throws by itself, no traces kept ===== -/
section VXM
set_option maxHeartbeats 1000000 in
/-- the machine throws cls with the message text, no traces kept: from its note over the frame g to 'throwing' over the same frame (follows the proofs of Stand.vmThrowsMessage, Shelf/KitTracedVmS.lean, and Stand.throwsMessageColdBareV, StandMessageColdV.lean, without the step out of the frame) -/
theorem vx_vmAt {p : Program} {l : Launch} {e : Env} {R : Room} {s : State} {m₀ : MethodId} {args : Array Value} {below : List Frame} {meth : Method} {c : Code} {W : State} {locs : List Loc} {cells slots : Nat}
    (X : Stand p l e R s m₀ args below meth c W locs cells slots) (hexec : p.tables.exec = Jvm.exec) (htr : e.platform.stackTraces = false) {cls : String} {names : List String} {text : String}
    (hcls : Bundle.fit cls = true) (hnames : ∀ n ∈ names, Bundle.fit n = true) (hsoe : (cls == "java/lang/StackOverflowError") = false) (hoom : (cls == "java/lang/OutOfMemoryError") = false)
    (h : ∀ a ∈ Bundle.messageArmAtoms cls names, a.before args s = true)
    (hlocs : ∀ x ∈ locs, ∀ cell, s.heap[x.base]? = some cell → cell.vm.isStatics = false)
    (htext : (text == notModelled) = false) (hlimit : ¬ (stringBytes (stringToUtf16 text)).size > e.platform.arrayLengthLimit) (hheap : ¬ (stringBytes (stringToUtf16 text)).size * componentBytes .byte > e.platform.maxHeapBytes)
    {g : JFrame} (hg : g.method = m₀) (hsize : g.locals.size = c.maxLocals)
    (hRframes : names.length + 4 < R.frames) (hRlocals : 2 * g.monitorRoom + (g.stack.map fun v => v.category).sum + 10240 ≤ R.locals) (hshort : 13 * names.length + 55 ≤ 10240)
    (hRcells : cells + 3 ≤ R.cells) (hRslots : slots + ((stringBytes (stringToUtf16 text)).size + 4 + 6) ≤ R.slots) (hlocks : meth.locks = false) :
    ∃ (S : State) (q : Addr) (ce : Cell), (∀ target, Steps p.tables e below ((S.setTop g).pushFrame (.throwing q)) target → Steps p.tables e below ((W.setTop g).pushFrame (.throwNew cls (some text) none)) target) ∧
      Stand p l e R s m₀ args below meth c S locs (cells + 3) (slots + ((stringBytes (stringToUtf16 text)).size + 4 + 6)) ∧ S.heap[q]? = some ce ∧ s.vm.findClass cls = some ce.cls ∧ ce.vm = .none := by
  have howns : e.platform.frameOwnsMonitors = true := by rw [X.admits.platform]
  have hfin : e.platform.finalization = false := by rw [X.admits.platform]
  have hpl : e.platform.magicAccessors = ({} : Platform).magicAccessors := by rw [X.admits.platform]
  have a : ∀ x, x ∈ Bundle.messageArmAtoms cls names → x.holds args s none s [] = true := fun x hx => h x hx
  obtain ⟨T, Z0, L, -, Y⟩ := ThrowableC.of_atoms (args := args) howns hfin hpl (fun x hx => h x (by simp [Bundle.messageArmAtoms, hx]))
  obtain ⟨Z, M, LZ, LM, hnZ⟩ := Init0T.ofS_atoms (args := args) hpl L Y (fun x hx => h x (by simp [Bundle.messageArmAtoms, hx]))
  obtain ⟨P1, Ps, hlen, L1, hL, hP1m, hlink1, hlink⟩ := Bundle.chainS (args := args) hpl hnZ names cls hcls hnames (fun x hx => h x (by simp [Bundle.messageArmAtoms, hx]))
  obtain ⟨Zs, LZs, hn4, hfitv, hfitc⟩ := StringT.of_atoms (args := args) (fun x hx => h x (by simp [Bundle.messageArmAtoms, hx]))
  have hfound : s.vm.findClass cls = some P1.m.cls := findClass_of_methodNamed hP1m
  obtain ⟨c1, kX, hc1, hk, hord, -, -, hn6⟩ := Cond.instantiable_spec (a (.instantiable cls 6) (by simp [Bundle.messageArmAtoms]))
  cases Option.some.inj (hc1.symm.trans hfound)
  have hinit := Cond.initialized_spec hfound hk (a (.initialized cls) (by simp [Bundle.messageArmAtoms]))
  have hctor : kX.findMethod "<init>" "(Ljava/lang/String;)V" = some P1.m.idx := findMethod_of_methodNamed hP1m hk
  have hsel0 : selectMethod e.platform s.vm P1.m.cls T.fill0 = .method T.fill0 := by
    obtain ⟨c2, r2, m2, q1, q2, q3, q4, -⟩ := Cond.selects_spec (a (.selects cls Bundle.tFill0 Bundle.tFill0) (by simp [Bundle.messageArmAtoms]))
    cases Option.some.inj (q1.symm.trans hfound)
    cases Option.some.inj (q2.symm.trans (State.methodFound?_of_named Y.fill0 (by decide)))
    cases Option.some.inj (q3.symm.trans Y.fill0)
    rw [Launch.admits_selectMethod X.admits]; exact q4
  have hselF : selectMethod e.platform s.vm P1.m.cls T.fill = .method T.fill := by
    obtain ⟨c2, r2, m2, q1, q2, q3, q4, -⟩ := Cond.selects_spec (a (.selects cls Bundle.tFill Bundle.tFill) (by simp [Bundle.messageArmAtoms]))
    cases Option.some.inj (q1.symm.trans hfound)
    cases Option.some.inj (q2.symm.trans (State.methodFound?_of_named Y.fill (by decide)))
    cases Option.some.inj (q3.symm.trans Y.fill)
    rw [Launch.admits_selectMethod X.admits]; exact q4
  obtain ⟨cellS0, hcS0, hiss⟩ := Y.statics
  obtain ⟨u0, hu0⟩ := Cond.staticRefV Y.unassigned L.unassignedStatic L.statics hcS0 hiss (a (.isRef (.static Bundle.tN "UNASSIGNED_STACK" Bundle.steD)) (by simp [Bundle.messageArmAtoms]))
  obtain ⟨sen, hsen⟩ := Cond.staticRefV Y.sentinel L.sentinelStatic L.statics hcS0 hiss (a (.isRef (.static Bundle.tN "SUPPRESSED_SENTINEL" Bundle.listD)) (by simp [Bundle.messageArmAtoms]))
  obtain ⟨ci198, i198, fB, hk198, hg198, ha198, hsB, -, hnB, htB, hffB⟩ := Cond.ownField (t := .object "java/lang/Object") Y.found L.cls (by decide +kernel) (a (.fieldLink Bundle.tN 198 Bundle.tN "backtrace" "Ljava/lang/Object;") (by simp [Bundle.messageArmAtoms])) (a (.lays Bundle.tN Bundle.tN "backtrace" "Ljava/lang/Object;") (by simp [Bundle.messageArmAtoms])) e.platform hpl
  obtain ⟨cellS, hcS', heS, -, hkeep⟩ := X.same.2.2.2.2.2 T.aS cellS0 hcS0
  have hcellS : W.heap[T.aS]? = some cellS := hcS'
  have hout' : ∀ i, (⟨T.aS, i⟩ : Loc) ∉ locs := fun i hmem => by
    have := hlocs _ hmem cellS0 hcS0
    rw [hiss] at this; cases this
  have hknownS : cellS.vm ≠ .unknown := by
    rw [heS]; intro hu
    rw [show cellS0.vm = .unknown from hu] at hiss
    cases hiss
  have hvU : cellS.slots[T.fUnassigned.slot]? = some u0.v := by rw [hkeep _ (hout' _)]; exact hu0
  have hvSen : cellS.slots[T.fSentinel.slot]? = some sen.v := by rw [hkeep _ (hout' _)]; exact hsen
  obtain ⟨iM, hffM⟩ := Y.msg
  obtain ⟨tyC, dC, hdC, hdnC⟩ := Cond.laysAt hfound hk Y.cause (a (.lays cls Bundle.tN "cause" "Ljava/lang/Throwable;") (by simp [Bundle.messageArmAtoms]))
  obtain ⟨tyS, dS, hdS, hdnS⟩ := Cond.laysAt hfound hk Y.stack (a (.lays cls Bundle.tN "stackTrace" Bundle.steD) (by simp [Bundle.messageArmAtoms]))
  obtain ⟨tyP, dP, hdP, hdnP⟩ := Cond.laysAt hfound hk Y.supp (a (.lays cls Bundle.tN "suppressedExceptions" Bundle.listD) (by simp [Bundle.messageArmAtoms]))
  obtain ⟨tyM, dM, hdM, hdnM⟩ := Cond.laysAt hfound hk hffM (a (.lays cls Bundle.tN "detailMessage" "Ljava/lang/String;") (by simp [Bundle.messageArmAtoms]))
  obtain ⟨tyB, dB, hdB, hdnB⟩ := Cond.laysAt hfound hk hffB (a (.lays cls Bundle.tN "backtrace" "Ljava/lang/Object;") (by simp [Bundle.messageArmAtoms]))
  have bC := Cond.laysApart hdB hdC hdnB hdnC (by rw [hnB, Y.causeName]; decide)
  have bS := Cond.laysApart hdB hdS hdnB hdnS (by rw [hnB, Y.stackName]; decide)
  have bP := Cond.laysApart hdB hdP hdnB hdnP (by rw [hnB, Y.suppName]; decide)
  have hbk : ((preparedCellV T.toThrowableT (freshCell P1.m.cls kX) (W.heap.size + 2) u0 sen).withEntry W.cur).slots[fB.slot]? = some .null := by
    have := fresh_default (c := P1.m.cls) tyB
    rw [htB] at this
    simpa [preparedCellV, Cell.setSlot, Cell.withEntry, Array.getElem?_setIfInBounds, bC, bS, bP, bC.symm, bS.symm, bP.symm, defaultValue] using this
  have tkC := Takes.of_laid (v := .ref (W.heap.size + 2)) hk hord tyC (by rw [Y.causeType]; rfl)
  have tkS := Takes.of_laid (v := u0.v) hk hord tyS (by rw [Y.stackType]; exact fits_refV_array _ u0)
  have tkP := Takes.of_laid (v := sen.v) hk hord tyP (by rw [Y.suppType]; exact fits_refV_object _ sen)
  have tkM := Takes.of_laid (v := .ref (W.heap.size + 1)) hk hord tyM (by rw [Y.msgType]; rfl)
  have hskip : SkipFacts T e.platform s (fun u => u) u0 ((preparedCellV T.toThrowableT (freshCell P1.m.cls kX) (W.heap.size + 2) u0 sen).withEntry W.cur) := ⟨{ ci198 := ci198, i198 := i198, fBack := fB }, ⟨hk198, hg198, ha198, hsB⟩, hbk, fun _ _ => rfl⟩
  have h0 : At W g.method c below := by rw [hg]; exact X.here
  obtain ⟨hbeyond, hfreeW⟩ := X.vmMayThrow hsize (.throwNew cls (some text) none) (fun f hf => by cases hf) rfl hRlocals
  have hfr' : W.frames.length + Ps.length + 4 < (e.platform.stackLimits W.me).1 := by have := X.framesAbove hRframes; omega
  have hwd' : (stackUse (.java g :: W.frames.tail)).2 + 13 * Ps.length + 55 ≤ (e.platform.stackLimits W.me).2 := by have := X.stackAbove hsize (K := 13 * Ps.length + 55) (by omega); omega
  have hslots : W.slotsUsed + (stringBytes (stringToUtf16 text)).size + Zs.kS.instanceTypes.size + kX.instanceTypes.size ≤ e.platform.maxSlots := by
    have := X.slotsAbove hRslots
    rw [hn4, hn6]
    omega
  obtain ⟨vm', hW', st⟩ := Steps.vmThrowsMessageColdByV p (s₀ := s) (S := W) (g := g) h0 hexec T L Z LZ M LM X.warmed (t := W.cur) rfl Zs LZs P1 L1 Ps hL hlink1 hlink hsoe hoom hfound hk hinit hord hctor
    (Launch.admits_hotImplicitExceptions X.admits) hbeyond hfreeW htext hlimit hheap (X.cellsAbove hRcells) hslots (hfitv _) (hfitc _)
    (Nn := fun u => u) heapOnly_id (fun _ _ => rfl) (fun _ => rfl) (fun u x y => setCell_twice _ _ _ _) (fun _ => Nat.le_refl _) (cN := ((preparedCellV T.toThrowableT (freshCell P1.m.cls kX) (W.heap.size + 2) u0 sen).withEntry W.cur))
    hsel0 hcellS hknownS hvU tkS (fun _ hu => hu) (fun _ hu => hu) rfl rfl rfl (by simp [preparedCellV, Cell.setSlot, Cell.withEntry]) hskip (fun _ _ hA hW _ hroom _ hrest => L.nativeOff p htr hA hW hroom hrest) hselF hvSen tkC tkP tkM Y.objLocals rfl hfr' hwd'
  rw [plainBareV_eq T.toThrowableT (W.heap.size + 2) u0 sen (.ref (W.heap.size + 1)) W.cur rfl rfl] at st
  obtain ⟨-, -, w3, w4, -, -, -⟩ := withThrown_facts e.platform W Zs text P1.m.cls kX
  have X3 := ((X.pushed (bytesOf Zs.cB (stringToUtf16 text))).pushed (stringAt Zs.cS Zs.kS Zs.fv Zs.fc (stringToUtf16 text) W.heap.size)).pushed (freshCell P1.m.cls kX)
  rw [← withString_eq] at X3
  have X4 := X3.noted hW'
  have ha : (W.heap.size + 2) < ((withThrown W Zs text P1.m.cls kX).setVm vm').heap.size := by show _ < (withThrown W Zs text P1.m.cls kX).heap.size; rw [w3]; omega
  have hcell : ((withThrown W Zs text P1.m.cls kX).setVm vm').heap[(W.heap.size + 2)]? = some (freshCell P1.m.cls kX) := w4
  have X5 := ((((X4.stored hcell T.fCause.slot (.ref (W.heap.size + 2))).storedAgain ha T.fStack.slot u0.v).storedAgain ha T.fSupp.slot sen.v).storedAgain ha T.fStack.slot u0.v).storedAgain ha T.fMsg.slot (.ref (W.heap.size + 1))
  obtain ⟨g₁, hfrM⟩ := X5.frames_eq
  have hU : ((((withThrown W Zs text P1.m.cls kX).setVm vm').setCell (W.heap.size + 2) (plainBareV T.toThrowableT (freshCell P1.m.cls kX) (W.heap.size + 2) u0 sen (.ref (W.heap.size + 1)))).setTop g).pushFrame (.throwing (W.heap.size + 2)) = (((withThrown W Zs text P1.m.cls kX).setVm vm').setCell (W.heap.size + 2) (plainBareV T.toThrowableT (freshCell P1.m.cls kX) (W.heap.size + 2) u0 sen (.ref (W.heap.size + 1)))).setFrames (.throwing (W.heap.size + 2) :: .java g :: below) := by
    rw [State.pushFrame, State.frames_setTop _ hfrM, State.setTop_of_frames _ hfrM, State.setFrames_setFrames]
  have b1 : (bytesOf Zs.cB (stringToUtf16 text)).slots.size = (stringBytes (stringToUtf16 text)).size := by
    rw [(Cell.writeAll_facts _ _).2.2]; simp [bytes0]
  have b2 : (stringAt Zs.cS Zs.kS Zs.fv Zs.fc (stringToUtf16 text) W.heap.size).slots.size = 4 := by simp [string0, Cell.setSlot, hn4]
  have b3 : (freshCell P1.m.cls kX).slots.size = 6 := by simp [hn6]
  rw [b1, b2, b3] at X5
  have e9 : slots + (stringBytes (stringToUtf16 text)).size + 4 + 6 = slots + ((stringBytes (stringToUtf16 text)).size + 4 + 6) := by omega
  rw [e9] at X5
  simp only [List.append_assoc, List.cons_append, List.nil_append] at X5
  refine ⟨((withThrown W Zs text P1.m.cls kX).setVm vm').setCell (W.heap.size + 2) (plainBareV T.toThrowableT (freshCell P1.m.cls kX) (W.heap.size + 2) u0 sen (.ref (W.heap.size + 1))), W.heap.size + 2, _, fun target ht => st _ (by rw [X.tail, ← hU]; exact ht),
    X5.forget (fun y hy => ?_), heapAt_setCell_self _ ha, hfound, rfl⟩
  simp only [List.mem_cons, List.not_mem_nil, or_false] at hy
  have hge : s.heap.size ≤ W.heap.size := X.same.2.1
  rcases hy with rfl | rfl | rfl | rfl | rfl <;> exact Nat.le_trans hge (Nat.le_add_right _ 2)
set_option maxHeartbeats 1000000 in
/-- the machine throws NullPointerException, no traces kept: from its note over the frame g to 'throwing' over the same frame (follows the proof of Stand.vmThrowsNpe, Shelf42/KT2.lean; throwsNpeColdBareVAt, Shelf42/NT91.lean, called) -/
theorem vx_npeAt {p : Program} {l : Launch} {e : Env} {R : Room} {s : State} {m₀ : MethodId} {args : Array Value} {below : List Frame} {meth : Method} {c : Code} {W : State} {locs : List Loc} {cells slots : Nat}
    (X : Stand p l e R s m₀ args below meth c W locs cells slots) (hexec : p.tables.exec = Jvm.exec) (htr : e.platform.stackTraces = false) {n : Nat}
    (h : ∀ a ∈ Bundle.npeArmAtoms n, a.before args s = true)
    (hlocs : ∀ x ∈ locs, ∀ cell, s.heap[x.base]? = some cell → cell.vm.isStatics = false)
    {g : JFrame} (hg : g.method = m₀) (hsize : g.locals.size = c.maxLocals)
    (hRframes : 7 < R.frames) (hRlocals : 2 * g.monitorRoom + (g.stack.map fun v => v.category).sum + 10240 ≤ R.locals)
    (hRcells : cells + 1 ≤ R.cells) (hRslots : slots + n ≤ R.slots) (hlocks : meth.locks = false) :
    ∃ (S : State) (q : Addr) (ce : Cell), (∀ target, Steps p.tables e below ((S.setTop g).pushFrame (.throwing q)) target → Steps p.tables e below ((W.setTop g).pushFrame (.throwNew "java/lang/NullPointerException" none none)) target) ∧
      Stand p l e R s m₀ args below meth c S locs (cells + 1) (slots + n) ∧ S.heap[q]? = some ce ∧ s.vm.findClass "java/lang/NullPointerException" = some ce.cls ∧ ce.vm = .none := by
  have howns : e.platform.frameOwnsMonitors = true := by rw [X.admits.platform]
  have hfin : e.platform.finalization = false := by rw [X.admits.platform]
  have hpl : e.platform.magicAccessors = ({} : Platform).magicAccessors := by rw [X.admits.platform]
  have hpl2 : e.platform.arrayCloneIsPublic = true := by rw [X.admits.platform]
  have a' : ∀ x, x ∈ Bundle.npeArmAtoms n → x.holds args s none s [] = true := fun x hx => h x hx
  obtain ⟨T, Z, L, LZ, Y⟩ := ThrowableC.of_atoms (args := args) howns hfin hpl (fun x hx => h x (by simp [Bundle.npeArmAtoms, hx]))
  obtain ⟨N, LN, hcN, hnNF, hordN, hffS⟩ := NpeC.of_atoms (args := args) hpl hpl2 L Y (fun x hx => h x (by simp [Bundle.npeArmAtoms, hx]))
  obtain ⟨P1, L1, hP1m, hP1s⟩ := PassC.of_atoms (args := args) (s := s) hpl (X := Bundle.nN) (Y := Bundle.rN) (by decide) (by decide) LibCode.NullPointerException.Init0.at_0 LibCode.NullPointerException.Init0.at_1 LibCode.NullPointerException.Init0.at_4 (fun x hx => h x (by simp [Bundle.npeArmAtoms, hx]))
  obtain ⟨PR, LR, hPRm, hPRs⟩ := PassC.of_atoms (args := args) (s := s) hpl (X := Bundle.rN) (Y := Bundle.eN) (by decide) (by decide) LibCode.RuntimeException.Init0.at_0 LibCode.RuntimeException.Init0.at_1 LibCode.RuntimeException.Init0.at_4 (fun x hx => h x (by simp [Bundle.npeArmAtoms, hx]))
  obtain ⟨PE, LEx, hPEm, hPEs⟩ := PassC.of_atoms (args := args) (s := s) hpl (X := Bundle.eN) (Y := Bundle.tN) (by decide) (by decide) LibCode.Exception.Init0.at_0 LibCode.Exception.Init0.at_1 LibCode.Exception.Init0.at_4 (fun x hx => h x (by simp [Bundle.npeArmAtoms, hx]))
  have hfound : s.vm.findClass Bundle.nN = some P1.m.cls := findClass_of_methodNamed hP1m
  have ecls : N.cN = P1.m.cls := Option.some.inj (hcN.symm.trans hfound)
  have hk : s.vm.classes[P1.m.cls]? = some N.kN := by rw [← ecls]; exact LN.cls
  have hinit := Cond.initialized_spec hfound hk (a' (.initialized Bundle.nN) (by simp [Bundle.npeArmAtoms]))
  have hctor : N.kN.findMethod "<init>" "()V" = some P1.m.idx := findMethod_of_methodNamed hP1m hk
  obtain ⟨c1, k1, hc1, hk1, -, -, -, hn⟩ := Cond.instantiable_spec (a' (.instantiable Bundle.nN n) (by simp [Bundle.npeArmAtoms]))
  cases Option.some.inj (hc1.symm.trans hfound)
  cases Option.some.inj (hk1.symm.trans hk)
  have hfsz : (freshCell P1.m.cls N.kN).slots.size = n := by simp [hn]
  have hlink1 : P1.sup = PR.m := Option.some.inj (hP1s.symm.trans hPRm)
  have hlinkR : PR.sup = PE.m := Option.some.inj (hPRs.symm.trans hPEm)
  have hlinkE : PE.sup = Z.m T.toThrowableT := Option.some.inj (hPEs.symm.trans Y.init0)
  have hLs : ∀ P, P ∈ [PR, PE] → P.Links0 e.platform s := fun P hP => by
    simp only [List.mem_cons, List.not_mem_nil, or_false] at hP
    rcases hP with rfl | rfl
    · exact LR
    · exact LEx
  have hsel0 : selectMethod e.platform s.vm P1.m.cls T.fill0 = .method T.fill0 := by
    obtain ⟨c2, r2, m2, q1, q2, q3, q4, -⟩ := Cond.selects_spec (a' (.selects Bundle.nN Bundle.tFill0 Bundle.tFill0) (by simp [Bundle.npeArmAtoms]))
    cases Option.some.inj (q1.symm.trans hfound)
    cases Option.some.inj (q2.symm.trans (State.methodFound?_of_named Y.fill0 (by decide)))
    cases Option.some.inj (q3.symm.trans Y.fill0)
    rw [Launch.admits_selectMethod X.admits]; exact q4
  have hselF : selectMethod e.platform s.vm P1.m.cls T.fill = .method N.fill := by
    obtain ⟨c2, r2, m2, q1, q2, q3, q4, -⟩ := Cond.selects_spec (a' (.selects Bundle.nN Bundle.tFill Bundle.nFill) (by simp [Bundle.npeArmAtoms]))
    cases Option.some.inj (q1.symm.trans hfound)
    cases Option.some.inj (q2.symm.trans (State.methodFound?_of_named Y.fill (by decide)))
    cases Option.some.inj (q3.symm.trans hnNF)
    rw [Launch.admits_selectMethod X.admits]; exact q4
  obtain ⟨cellS0, hcS0, hiss⟩ := Y.statics
  obtain ⟨u0, hu0⟩ := Cond.staticRefV Y.unassigned L.unassignedStatic L.statics hcS0 hiss (a' (.isRef (.static Bundle.tN "UNASSIGNED_STACK" Bundle.steD)) (by simp [Bundle.npeArmAtoms]))
  obtain ⟨sen, hsen⟩ := Cond.staticRefV Y.sentinel L.sentinelStatic L.statics hcS0 hiss (a' (.isRef (.static Bundle.tN "SUPPRESSED_SENTINEL" Bundle.listD)) (by simp [Bundle.npeArmAtoms]))
  obtain ⟨ci198, i198, fB, hk198, hg198, ha198, hsB, -, hnB, htB, hffB⟩ := Cond.ownField (t := .object "java/lang/Object") Y.found L.cls (by decide +kernel) (a' (.fieldLink Bundle.tN 198 Bundle.tN "backtrace" Bundle.objD) (by simp [Bundle.npeArmAtoms])) (a' (.lays Bundle.tN Bundle.tN "backtrace" Bundle.objD) (by simp [Bundle.npeArmAtoms])) e.platform hpl
  obtain ⟨cellS, hcS', heS, -, hkeep⟩ := X.same.2.2.2.2.2 T.aS cellS0 hcS0
  have hcellS : W.heap[T.aS]? = some cellS := hcS'
  have hout' : ∀ i, (⟨T.aS, i⟩ : Loc) ∉ locs := fun i hmem => by
    have := hlocs _ hmem cellS0 hcS0
    rw [hiss] at this; cases this
  have hknownS : cellS.vm ≠ .unknown := by
    rw [heS]; intro hu
    rw [show cellS0.vm = .unknown from hu] at hiss
    cases hiss
  have hvU : cellS.slots[T.fUnassigned.slot]? = some u0.v := by rw [hkeep _ (hout' _)]; exact hu0
  have hvSen : cellS.slots[T.fSentinel.slot]? = some sen.v := by rw [hkeep _ (hout' _)]; exact hsen
  obtain ⟨tyC, dC, hdC, hdnC⟩ := Cond.laysAt hfound hk Y.cause (a' (.lays Bundle.nN Bundle.tN "cause" "Ljava/lang/Throwable;") (by simp [Bundle.npeArmAtoms]))
  obtain ⟨tyS, dS, hdS, hdnS⟩ := Cond.laysAt hfound hk Y.stack (a' (.lays Bundle.nN Bundle.tN "stackTrace" Bundle.steD) (by simp [Bundle.npeArmAtoms]))
  obtain ⟨tyP, dP, hdP, hdnP⟩ := Cond.laysAt hfound hk Y.supp (a' (.lays Bundle.nN Bundle.tN "suppressedExceptions" Bundle.listD) (by simp [Bundle.npeArmAtoms]))
  obtain ⟨tyX, dX, hdX, hdnX⟩ := Cond.laysAt hfound hk hffS (a' (.lays Bundle.nN Bundle.nN "extendedMessageState" "I") (by simp [Bundle.npeArmAtoms, Bundle.npeAtoms]))
  obtain ⟨hnX, htX⟩ := State.fieldFound?_type hffS (t := .int) (by decide +kernel)
  have xC := Cond.laysApart hdC hdX hdnC hdnX (by rw [hnX, Y.causeName]; decide)
  have xS := Cond.laysApart hdS hdX hdnS hdnX (by rw [hnX, Y.stackName]; decide)
  have xP := Cond.laysApart hdP hdX hdnP hdnX (by rw [hnX, Y.suppName]; decide)
  have hv0 : (freshCell P1.m.cls N.kN).slots[N.fState.slot]? = some (.int 0) := by
    have := fresh_default (c := P1.m.cls) tyX
    rw [htX] at this; exact this
  obtain ⟨tyB, dB, hdB, hdnB⟩ := Cond.laysAt hfound hk hffB (a' (.lays Bundle.nN Bundle.tN "backtrace" Bundle.objD) (by simp [Bundle.npeArmAtoms]))
  have bC := Cond.laysApart hdB hdC hdnB hdnC (by rw [hnB, Y.causeName]; decide)
  have bS := Cond.laysApart hdB hdS hdnB hdnS (by rw [hnB, Y.stackName]; decide)
  have bP := Cond.laysApart hdB hdP hdnB hdnP (by rw [hnB, Y.suppName]; decide)
  have bX := Cond.laysApart hdB hdX hdnB hdnX (by rw [hnB, hnX]; decide)
  have hbk : ((npeCell N.toNpeT (preparedCellV T.toThrowableT (freshCell P1.m.cls N.kN) W.heap.size u0 sen) W.cur).withEntry W.cur).slots[fB.slot]? = some .null := by
    have := fresh_default (c := P1.m.cls) tyB
    rw [htB] at this
    simpa [npeCell, preparedCellV, Cell.setSlot, Cell.withEntry, Array.getElem?_setIfInBounds, bC, bS, bP, bX, bC.symm, bS.symm, bP.symm, bX.symm, defaultValue] using this
  have tkC := Takes.of_laid (v := .ref W.heap.size) hk hordN tyC (by rw [Y.causeType]; rfl)
  have tkS := Takes.of_laid (v := u0.v) hk hordN tyS (by rw [Y.stackType]; exact fits_refV_array _ u0)
  have tkP := Takes.of_laid (v := sen.v) hk hordN tyP (by rw [Y.suppType]; exact fits_refV_object _ sen)
  have tkX := Takes.of_laid (v := .int 1) hk hordN tyX (by rw [htX]; rfl)
  have hskip : SkipFacts T e.platform s (fun u => u) u0 ((npeCell N.toNpeT (preparedCellV T.toThrowableT (freshCell P1.m.cls N.kN) W.heap.size u0 sen) W.cur).withEntry W.cur) := ⟨{ ci198 := ci198, i198 := i198, fBack := fB }, ⟨hk198, hg198, ha198, hsB⟩, hbk, fun _ _ => rfl⟩
  obtain ⟨vm', X3, st, -⟩ := X.throwsNpeColdBareVAt hexec hg hsize T L Z LZ N LN P1 L1 [PR, PE] hLs hlink1 ⟨hlinkR, hlinkE, trivial⟩ hfound hk hinit hordN hctor hsel0 hselF hcellS hknownS hvU hvSen
    hv0 xC xS xP tkC tkS tkP tkX Y.objLocals hskip (fun _ _ hA hW _ hroom _ hrest => L.nativeOff p htr hA hW hroom hrest) (by simpa using hRframes) hRlocals (by simp) hRcells (by rw [hn]; exact hRslots)
  have hlt : W.heap.size < ((W.pushCell (freshCell P1.m.cls N.kN)).setVm vm').heap.size := by
    show W.heap.size < (W.pushCell (freshCell P1.m.cls N.kN)).heap.size
    rw [State.heap_size_pushCell]; omega
  rw [hfsz] at X3
  obtain ⟨g₁, hfrM⟩ := X3.frames_eq
  have hU : ((((W.pushCell (freshCell P1.m.cls N.kN)).setVm vm').setCell W.heap.size (npeBareV T.toThrowableT N.toNpeT (freshCell P1.m.cls N.kN) W.heap.size u0 sen)).setTop g).pushFrame (.throwing W.heap.size) = (((W.pushCell (freshCell P1.m.cls N.kN)).setVm vm').setCell W.heap.size (npeBareV T.toThrowableT N.toNpeT (freshCell P1.m.cls N.kN) W.heap.size u0 sen)).setFrames (.throwing W.heap.size :: .java g :: below) := by
    rw [State.pushFrame, State.frames_setTop _ hfrM, State.setTop_of_frames _ hfrM, State.setFrames_setFrames]
  refine ⟨_, W.heap.size, _, fun target ht => st.trans (by rw [← hU]; exact ht), X3.forget (fun y hy => ?_), heapAt_setCell_self _ hlt, hfound, rfl⟩
  simp only [List.mem_cons, List.not_mem_nil, or_false] at hy
  have hge : s.heap.size ≤ W.heap.size := X.same.2.1
  rcases hy with rfl | rfl | rfl | rfl | rfl <;> exact hge
/-- the words of a machine's NullPointerException, but the four that speak of the heap -/
def vx_atN (n : Nat) : List Cond := (Bundle.npeArmAtoms n).filter vx_no
/-- the words of a machine's throw with a message, but the four that speak of the heap -/
def vx_atM (X : String) (names : List String) : List Cond := (Bundle.messageArmAtoms X names).filter vx_no
section
variable {p : Program} {l : Launch} {e : Env} {R : Room} {s : State} {m : MethodId} {args : Array Value} {below : List Frame} {meth : Method} {c : Code} {H : Heap} {locs : List Loc} {cells slots : Nat}
/-- a frame seen from a rebased start, seen from the first start again -/
theorem vx_back9 {T S : State} {R' : Room} {k n : Nat} (X : Stand p l e R s m args below meth c T locs cells slots) (Y : Stand p l e R' ((T.setVm s.vm).setFrames (.invoking m args :: below)) m args below meth c T [] 0 0) (Z : Stand p l e R' ((T.setVm s.vm).setFrames (.invoking m args :: below)) m args below meth c S [] k n) :
    Stand p l e R s m args below meth c S locs (cells + k) (slots + n) := by
  have hW0 : s.WarmedH ((T.setVm s.vm).setFrames (.invoking m args :: below)).vm := State.WarmedH.refl s
  refine { admits := X.admits, cas := X.cas, clock := X.clock, frames := X.frames, room := X.room, hears := X.hears, method := X.method, code := X.code, here := Z.here, tail := Z.tail, warmed := State.WarmedH.trans hW0 Z.warmed, limits := Z.limits.trans (Y.limits.symm.trans X.limits), bytes := Z.bytes.trans (Y.bytes.symm.trans X.bytes), same := ?_ }
  obtain ⟨e1, e2⟩ := Z.same
  rw [State.setFrames_setFrames] at e1
  have h2 : (T.setVm s.vm).sameButNew (S.setVm s.vm) [] k n := ⟨e1, e2⟩
  have h3 := X.same.trans h2
  rw [List.append_nil] at h3
  exact h3
/-- from the machine's note that E is thrown here with this text -/
def vx_Note (p : Program) (l : Launch) (e : Env) (R : Room) (s : State) (m : MethodId) (args : Array Value) (below : List Frame) (meth : Method) (c : Code) (H : Heap) (locs : List Loc) (cells slots : Nat) (Q : State → Prop) (g : JFrame) (E text : String) : Prop :=
  ∀ T : State, T.heap = H → Stand p l e R s m args below meth c T locs cells slots → ∃ t, Steps p.tables e below ((T.setTop g).pushFrame (.throwNew E (some text) none)) t ∧ Q t
theorem vx_vm {pc : Nat} {ls : Array Slot} {rest : List Value} {Q : State → Prop} (hexec : p.tables.exec = Jvm.exec) (hl : l.stackTraces = false) {cls text : String} {names : List String} {nb : Nat} {A : Nat → Prop}
    (hcls : Bundle.fit cls = true) (hnames : ∀ n ∈ names, Bundle.fit n = true) (hsoe : (cls == "java/lang/StackOverflowError") = false) (hoom : (cls == "java/lang/OutOfMemoryError") = false)
    (hat : ∀ w ∈ vx_atM cls names, w.before args s = true) (hgood : ∀ w ∈ vx_atM cls names, vx_ot w = true)
    (hU : vx_Zq Bundle.tN "UNASSIGNED_STACK" Bundle.steD A s s.heap) (hN : vx_Zq Bundle.tN "SUPPRESSED_SENTINEL" Bundle.listD A s s.heap) (hS : va_S A s.heap H locs) (hsize : ls.size = c.maxLocals)
    (htext : (text == notModelled) = false) (hnb : (stringBytes (stringToUtf16 text)).size ≤ nb) (hnb1 : nb ≤ 1000)
    (hRframes : names.length + 4 < R.frames) (hRlocals : (rest.map fun v => v.category).sum + 10240 ≤ R.locals) (hshort : 13 * names.length + 55 ≤ 10240) (hRcells : cells + 3 ≤ R.cells) (hRslots : slots + (nb + 10) ≤ R.slots) (hlocks : meth.locks = false)
    (k : ∀ (H1 : Heap) (q9 : Addr) (ce : Cell), H.size ≤ H1.size → (∀ q : Nat, q < H.size → H1[q]? = H[q]?) → va_S A s.heap H1 locs → H1[q9]? = some ce → ce.vm = .none → s.vm.findClass cls = some ce.cls → vx_W p l e R s m args below meth c H1 locs (cells + 3) (slots + (nb + 10)) Q (F0 m pc ls rest) q9) :
    vx_Note p l e R s m args below meth c H locs cells slots Q (F0 m pc ls rest) cls text := by
  intro T hT X
  have htr : e.platform.stackTraces = false := (show e.platform.stackTraces = l.stackTraces by rw [X.admits.platform]).trans hl
  have Y := vx_rebase X (R' := { frames := R.frames, locals := R.locals, cells := 3, slots := nb + 10 }) (Nat.le_refl _) (Nat.le_refl _) hRcells hRslots
  have hhp : ((T.setVm s.vm).setFrames (.invoking m args :: below)).heap = H := hT
  have hW0 : s.WarmedH ((T.setVm s.vm).setFrames (.invoking m args :: below)).vm := State.WarmedH.refl s
  have hat' : ∀ w ∈ vx_atM cls names, w.before args ((T.setVm s.vm).setFrames (.invoking m args :: below)) = true := fun w hw => vx_ot_at hW0 rfl (hgood w hw) (hat w hw)
  have hU' : vx_Zq Bundle.tN "UNASSIGNED_STACK" Bundle.steD A ((T.setVm s.vm).setFrames (.invoking m args :: below)) ((T.setVm s.vm).setFrames (.invoking m args :: below)).heap := by rw [hhp]; exact vx_Zq.moved hW0.alike (hU.kept hS.2.1)
  have hN' : vx_Zq Bundle.tN "SUPPRESSED_SENTINEL" Bundle.listD A ((T.setVm s.vm).setFrames (.invoking m args :: below)) ((T.setVm s.vm).setFrames (.invoking m args :: below)).heap := by rw [hhp]; exact vx_Zq.moved hW0.alike (hN.kept hS.2.1)
  obtain ⟨S, q, ce, st, Z, hce, hcl', hv⟩ := vx_vmAt Y hexec htr (cls := cls) (names := names) (text := text) hcls hnames hsoe hoom (vx_own hat' (vx_isRefq hU'.1) (vx_isRefq hN'.1) hU'.2.word hN'.2.word) (fun x hx => nomatch hx) htext
    (by rw [Launch.admits_arrayLengthLimit X.admits]; omega) (by rw [Launch.admits_maxHeapBytes X.admits]; simp only [componentBytes]; omega)
    (g := F0 m pc ls rest) rfl hsize hRframes (by show 2 * 0 + (rest.map fun v => v.category).sum + 10240 ≤ R.locals; omega) hshort (by show 0 + 3 ≤ 3; omega) (by show 0 + (_ + 4 + 6) ≤ nb + 10; omega) hlocks
  obtain ⟨f1, f2⟩ := vx_frame Z.same
  have f1' : H.size ≤ S.heap.size := by rw [← hT]; exact f1
  have f2' : ∀ q : Nat, q < H.size → S.heap[q]? = H[q]? := fun q hq => by
    rw [← hT]
    exact f2 q (by rw [← hT] at hq; exact hq) (fun z hz => nomatch hz)
  have X5 := vx_back9 X Y Z
  have X6 : Stand p l e R s m args below meth c S locs (cells + 3) (slots + (nb + 10)) := { X5 with same := X5.same.mono (by omega) (by omega) }
  obtain ⟨t, a1, b1⟩ := k S.heap q ce f1' f2' ⟨Nat.le_trans hS.1 f1', fun q h1 h2 => (f2' q (Nat.lt_of_lt_of_le h1 hS.1)).trans (hS.2.1 q h1 h2), hS.2.2⟩ hce hv hcl' S rfl X6
  exact ⟨t, st t a1, b1⟩
/-- from the machine's note that NullPointerException is thrown here -/
def vx_NoteN (p : Program) (l : Launch) (e : Env) (R : Room) (s : State) (m : MethodId) (args : Array Value) (below : List Frame) (meth : Method) (c : Code) (H : Heap) (locs : List Loc) (cells slots : Nat) (Q : State → Prop) (g : JFrame) : Prop :=
  ∀ T : State, T.heap = H → Stand p l e R s m args below meth c T locs cells slots → ∃ t, Steps p.tables e below ((T.setTop g).pushFrame (.throwNew "java/lang/NullPointerException" none none)) t ∧ Q t
theorem vx_npe {pc : Nat} {ls : Array Slot} {rest : List Value} {Q : State → Prop} (hexec : p.tables.exec = Jvm.exec) (hl : l.stackTraces = false) {nb : Nat} {A : Nat → Prop}
    (hat : ∀ w ∈ vx_atN nb, w.before args s = true) (hgood : ∀ w ∈ vx_atN nb, vx_ot w = true)
    (hU : vx_Zq Bundle.tN "UNASSIGNED_STACK" Bundle.steD A s s.heap) (hN : vx_Zq Bundle.tN "SUPPRESSED_SENTINEL" Bundle.listD A s s.heap) (hS : va_S A s.heap H locs) (hsize : ls.size = c.maxLocals)
    (hRframes : 7 < R.frames) (hRlocals : (rest.map fun v => v.category).sum + 10240 ≤ R.locals) (hRcells : cells + 1 ≤ R.cells) (hRslots : slots + nb ≤ R.slots) (hlocks : meth.locks = false)
    (k : ∀ (H1 : Heap) (q9 : Addr) (ce : Cell), H.size ≤ H1.size → (∀ q : Nat, q < H.size → H1[q]? = H[q]?) → va_S A s.heap H1 locs → H1[q9]? = some ce → ce.vm = .none → s.vm.findClass "java/lang/NullPointerException" = some ce.cls → vx_W p l e R s m args below meth c H1 locs (cells + 1) (slots + nb) Q (F0 m pc ls rest) q9) :
    vx_NoteN p l e R s m args below meth c H locs cells slots Q (F0 m pc ls rest) := by
  intro T hT X
  have htr : e.platform.stackTraces = false := (show e.platform.stackTraces = l.stackTraces by rw [X.admits.platform]).trans hl
  have Y := vx_rebase X (R' := { frames := R.frames, locals := R.locals, cells := 1, slots := nb }) (Nat.le_refl _) (Nat.le_refl _) hRcells hRslots
  have hhp : ((T.setVm s.vm).setFrames (.invoking m args :: below)).heap = H := hT
  have hW0 : s.WarmedH ((T.setVm s.vm).setFrames (.invoking m args :: below)).vm := State.WarmedH.refl s
  have hat' : ∀ w ∈ vx_atN nb, w.before args ((T.setVm s.vm).setFrames (.invoking m args :: below)) = true := fun w hw => vx_ot_at hW0 rfl (hgood w hw) (hat w hw)
  have hU' : vx_Zq Bundle.tN "UNASSIGNED_STACK" Bundle.steD A ((T.setVm s.vm).setFrames (.invoking m args :: below)) ((T.setVm s.vm).setFrames (.invoking m args :: below)).heap := by rw [hhp]; exact vx_Zq.moved hW0.alike (hU.kept hS.2.1)
  have hN' : vx_Zq Bundle.tN "SUPPRESSED_SENTINEL" Bundle.listD A ((T.setVm s.vm).setFrames (.invoking m args :: below)) ((T.setVm s.vm).setFrames (.invoking m args :: below)).heap := by rw [hhp]; exact vx_Zq.moved hW0.alike (hN.kept hS.2.1)
  obtain ⟨S, q, ce, st, Z, hce, hcl', hv⟩ := vx_npeAt Y hexec htr (n := nb) (vx_own hat' (vx_isRefq hU'.1) (vx_isRefq hN'.1) hU'.2.word hN'.2.word) (fun x hx => nomatch hx)
    (g := F0 m pc ls rest) rfl hsize hRframes (by show 2 * 0 + (rest.map fun v => v.category).sum + 10240 ≤ R.locals; omega) (by show 0 + 1 ≤ 1; omega) (by show 0 + nb ≤ nb; omega) hlocks
  obtain ⟨f1, f2⟩ := vx_frame Z.same
  have f1' : H.size ≤ S.heap.size := by rw [← hT]; exact f1
  have f2' : ∀ q : Nat, q < H.size → S.heap[q]? = H[q]? := fun q hq => by
    rw [← hT]
    exact f2 q (by rw [← hT] at hq; exact hq) (fun z hz => nomatch hz)
  have X5 := vx_back9 X Y Z
  have X6 : Stand p l e R s m args below meth c S locs (cells + 1) (slots + nb) := { X5 with same := X5.same.mono (by omega) (by omega) }
  obtain ⟨t, a1, b1⟩ := k S.heap q ce f1' f2' ⟨Nat.le_trans hS.1 f1', fun q h1 h2 => (f2' q (Nat.lt_of_lt_of_le h1 hS.1)).trans (hS.2.1 q h1 h2), hS.2.2⟩ hce hv hcl' S rfl X6
  exact ⟨t, st t a1, b1⟩
variable {Q : State → Prop} {cc : ByteArray} {pc : Nat} {ls : Array Slot} {rest : List Value}
theorem vx_idivZ (hexec : p.tables.exec = Jvm.exec) (hb : c.code = cc) {a b : Int32} (h0 : b = 0) (d : decode cc pc = .ok (.idiv, 1)) (k : vx_Note p l e R s m args below meth c H locs cells slots Q (F0 m pc ls rest) "java/lang/ArithmeticException" "/ by zero") :
    W p l e R s m args below meth c H locs cells slots Q (F0 m pc ls (.int b :: .int a :: rest)) := by
  intro T hT X
  obtain ⟨t, st, q⟩ := k T hT X
  exact ⟨t, X.idivZero hexec (g := F0 m pc ls (.int b :: .int a :: rest)) rfl (a := a) (rest := rest) (by rw [h0]) (by rw [hb]; exact d) t st, q⟩
theorem vx_iremZ (hexec : p.tables.exec = Jvm.exec) (hb : c.code = cc) {a b : Int32} (h0 : b = 0) (d : decode cc pc = .ok (.irem, 1)) (k : vx_Note p l e R s m args below meth c H locs cells slots Q (F0 m pc ls rest) "java/lang/ArithmeticException" "/ by zero") :
    W p l e R s m args below meth c H locs cells slots Q (F0 m pc ls (.int b :: .int a :: rest)) := by
  intro T hT X
  obtain ⟨t, st, q⟩ := k T hT X
  exact ⟨t, X.iremZero hexec (g := F0 m pc ls (.int b :: .int a :: rest)) rfl (a := a) (rest := rest) (by rw [h0]) (by rw [hb]; exact d) t st, q⟩
theorem vx_ldivZ (hexec : p.tables.exec = Jvm.exec) (hb : c.code = cc) {a b : Int64} (h0 : b = 0) (d : decode cc pc = .ok (.ldiv, 1)) (k : vx_Note p l e R s m args below meth c H locs cells slots Q (F0 m pc ls rest) "java/lang/ArithmeticException" "/ by zero") :
    W p l e R s m args below meth c H locs cells slots Q (F0 m pc ls (.long b :: .long a :: rest)) := by
  intro T hT X
  obtain ⟨t, st, q⟩ := k T hT X
  exact ⟨t, X.ldivZero hexec (g := F0 m pc ls (.long b :: .long a :: rest)) rfl (a := a) (rest := rest) (by rw [h0]) (by rw [hb]; exact d) t st, q⟩
theorem vx_lremZ (hexec : p.tables.exec = Jvm.exec) (hb : c.code = cc) {a b : Int64} (h0 : b = 0) (d : decode cc pc = .ok (.lrem, 1)) (k : vx_Note p l e R s m args below meth c H locs cells slots Q (F0 m pc ls rest) "java/lang/ArithmeticException" "/ by zero") :
    W p l e R s m args below meth c H locs cells slots Q (F0 m pc ls (.long b :: .long a :: rest)) := by
  intro T hT X
  obtain ⟨t, st, q⟩ := k T hT X
  exact ⟨t, X.lremZero hexec (g := F0 m pc ls (.long b :: .long a :: rest)) rfl (a := a) (rest := rest) (by rw [h0]) (by rw [hb]; exact d) t st, q⟩
theorem vx_ialdZ {D : va_G} {cl : List vw_C} {ws : va_W} {tys : List (ClassId × FieldType)} {a : Nat} (hexec : p.tables.exec = Jvm.exec) (hb : c.code = cc) (hK : va_K D cl tys s) (hP : va_P D cl ws H) (q0 t0 : Nat) {cA : ClassId} {n : Nat} {f : Nat → Int32} (ha : ws[q0]? = some (a, .inl (cA, n, .inl f))) (ht : tys[t0]? = some (cA, .int)) {i : Int32} (hout : ¬ vp_in i n) (hdg : decode cc pc = .ok (.iaload, 1))
    (k : ∀ tx : String, tx = (toString "Index " ++ toString i ++ toString " out of bounds for length " ++ toString n : String) → vx_Note p l e R s m args below meth c H locs cells slots Q (F0 m pc ls rest) "java/lang/ArrayIndexOutOfBoundsException" tx) : W p l e R s m args below meth c H locs cells slots Q (F0 m pc ls (.int i :: .ref a :: rest)) := by
  intro T hT X
  obtain ⟨t, st, q⟩ := k _ rfl T hT X
  refine ⟨t, ?_, q⟩
  have h1 := X.ialoadOut hexec (by rw [hT]; exact hP q0 _ ha) ((hK.2 t0 _ ht).1 n (fun j => .int (f j))) (j := i) (by show (i < 0 ∨ (arrV _ _ _).slots.size ≤ _); rw [arrV_size]; exact Classical.byContradiction hout) (g := F0 m pc ls (.int i :: .ref a :: rest)) rfl (rest := rest) rfl (by rw [hb]; exact hdg) t
  simp only [arrV_size] at h1
  exact h1 st
theorem vx_iastZ {D : va_G} {cl : List vw_C} {ws : va_W} {tys : List (ClassId × FieldType)} {a : Nat} (hexec : p.tables.exec = Jvm.exec) (hb : c.code = cc) (hK : va_K D cl tys s) (hP : va_P D cl ws H) (q0 t0 : Nat) {cA : ClassId} {n : Nat} {f : Nat → Int32} (ha : ws[q0]? = some (a, .inl (cA, n, .inl f))) (ht : tys[t0]? = some (cA, .int)) {i : Int32} {x : Int32} (hout : ¬ vp_in i n) (hdg : decode cc pc = .ok (.iastore, 1))
    (k : ∀ tx : String, tx = (toString "Index " ++ toString i ++ toString " out of bounds for length " ++ toString n : String) → vx_Note p l e R s m args below meth c H locs cells slots Q (F0 m pc ls rest) "java/lang/ArrayIndexOutOfBoundsException" tx) : W p l e R s m args below meth c H locs cells slots Q (F0 m pc ls (.int x :: .int i :: .ref a :: rest)) := by
  intro T hT X
  obtain ⟨t, st, q⟩ := k _ rfl T hT X
  refine ⟨t, ?_, q⟩
  have h1 := X.iastoreOut hexec (by rw [hT]; exact hP q0 _ ha) ((hK.2 t0 _ ht).1 n (fun j => .int (f j))) (j := i) (by show (i < 0 ∨ (arrV _ _ _).slots.size ≤ _); rw [arrV_size]; exact Classical.byContradiction hout) (g := F0 m pc ls (.int x :: .int i :: .ref a :: rest)) rfl (rest := rest) rfl (by rw [hb]; exact hdg) t
  simp only [arrV_size] at h1
  exact h1 st
theorem vx_baldZ {D : va_G} {cl : List vw_C} {ws : va_W} {tys : List (ClassId × FieldType)} {a : Nat} (hexec : p.tables.exec = Jvm.exec) (hb : c.code = cc) (hK : va_K D cl tys s) (hP : va_P D cl ws H) (q0 t0 : Nat) {cA : ClassId} {n : Nat} {f : Nat → Int32} (ha : ws[q0]? = some (a, .inl (cA, n, .inl f))) (ht : tys[t0]? = some (cA, .byte)) {i : Int32} (hout : ¬ vp_in i n) (hdg : decode cc pc = .ok (.baload, 1))
    (k : ∀ tx : String, tx = (toString "Index " ++ toString i ++ toString " out of bounds for length " ++ toString n : String) → vx_Note p l e R s m args below meth c H locs cells slots Q (F0 m pc ls rest) "java/lang/ArrayIndexOutOfBoundsException" tx) : W p l e R s m args below meth c H locs cells slots Q (F0 m pc ls (.int i :: .ref a :: rest)) := by
  intro T hT X
  obtain ⟨t, st, q⟩ := k _ rfl T hT X
  refine ⟨t, ?_, q⟩
  have h1 := X.baloadOut hexec (by rw [hT]; exact hP q0 _ ha) ((hK.2 t0 _ ht).1 n (fun j => .int (f j))) (j := i) (by show (i < 0 ∨ (arrV _ _ _).slots.size ≤ _); rw [arrV_size]; exact Classical.byContradiction hout) (g := F0 m pc ls (.int i :: .ref a :: rest)) rfl (rest := rest) rfl (by rw [hb]; exact hdg) t
  simp only [arrV_size] at h1
  exact h1 st
theorem vx_bastZ {D : va_G} {cl : List vw_C} {ws : va_W} {tys : List (ClassId × FieldType)} {a : Nat} (hexec : p.tables.exec = Jvm.exec) (hb : c.code = cc) (hK : va_K D cl tys s) (hP : va_P D cl ws H) (q0 t0 : Nat) {cA : ClassId} {n : Nat} {f : Nat → Int32} (ha : ws[q0]? = some (a, .inl (cA, n, .inl f))) (ht : tys[t0]? = some (cA, .byte)) {i : Int32} {x : Int32} (hout : ¬ vp_in i n) (hdg : decode cc pc = .ok (.bastore, 1))
    (k : ∀ tx : String, tx = (toString "Index " ++ toString i ++ toString " out of bounds for length " ++ toString n : String) → vx_Note p l e R s m args below meth c H locs cells slots Q (F0 m pc ls rest) "java/lang/ArrayIndexOutOfBoundsException" tx) : W p l e R s m args below meth c H locs cells slots Q (F0 m pc ls (.int x :: .int i :: .ref a :: rest)) := by
  intro T hT X
  obtain ⟨t, st, q⟩ := k _ rfl T hT X
  refine ⟨t, ?_, q⟩
  have h1 := X.bastoreOut hexec (by rw [hT]; exact hP q0 _ ha) ((hK.2 t0 _ ht).1 n (fun j => .int (f j))) (j := i) (by show (i < 0 ∨ (arrV _ _ _).slots.size ≤ _); rw [arrV_size]; exact Classical.byContradiction hout) (g := F0 m pc ls (.int x :: .int i :: .ref a :: rest)) rfl (rest := rest) rfl (by rw [hb]; exact hdg) t
  simp only [arrV_size] at h1
  exact h1 st
theorem vx_zaldZ {D : va_G} {cl : List vw_C} {ws : va_W} {tys : List (ClassId × FieldType)} {a : Nat} (hexec : p.tables.exec = Jvm.exec) (hb : c.code = cc) (hK : va_K D cl tys s) (hP : va_P D cl ws H) (q0 t0 : Nat) {cA : ClassId} {n : Nat} {f : Nat → Int32} (ha : ws[q0]? = some (a, .inl (cA, n, .inl f))) (ht : tys[t0]? = some (cA, .boolean)) {i : Int32} (hout : ¬ vp_in i n) (hdg : decode cc pc = .ok (.baload, 1))
    (k : ∀ tx : String, tx = (toString "Index " ++ toString i ++ toString " out of bounds for length " ++ toString n : String) → vx_Note p l e R s m args below meth c H locs cells slots Q (F0 m pc ls rest) "java/lang/ArrayIndexOutOfBoundsException" tx) : W p l e R s m args below meth c H locs cells slots Q (F0 m pc ls (.int i :: .ref a :: rest)) := by
  intro T hT X
  obtain ⟨t, st, q⟩ := k _ rfl T hT X
  refine ⟨t, ?_, q⟩
  have h1 := X.baloadOut hexec (by rw [hT]; exact hP q0 _ ha) ((hK.2 t0 _ ht).1 n (fun j => .int (f j))) (j := i) (by show (i < 0 ∨ (arrV _ _ _).slots.size ≤ _); rw [arrV_size]; exact Classical.byContradiction hout) (g := F0 m pc ls (.int i :: .ref a :: rest)) rfl (rest := rest) rfl (by rw [hb]; exact hdg) t
  simp only [arrV_size] at h1
  exact h1 st
theorem vx_zastZ {D : va_G} {cl : List vw_C} {ws : va_W} {tys : List (ClassId × FieldType)} {a : Nat} (hexec : p.tables.exec = Jvm.exec) (hb : c.code = cc) (hK : va_K D cl tys s) (hP : va_P D cl ws H) (q0 t0 : Nat) {cA : ClassId} {n : Nat} {f : Nat → Int32} (ha : ws[q0]? = some (a, .inl (cA, n, .inl f))) (ht : tys[t0]? = some (cA, .boolean)) {i : Int32} {x : Int32} (hout : ¬ vp_in i n) (hdg : decode cc pc = .ok (.bastore, 1))
    (k : ∀ tx : String, tx = (toString "Index " ++ toString i ++ toString " out of bounds for length " ++ toString n : String) → vx_Note p l e R s m args below meth c H locs cells slots Q (F0 m pc ls rest) "java/lang/ArrayIndexOutOfBoundsException" tx) : W p l e R s m args below meth c H locs cells slots Q (F0 m pc ls (.int x :: .int i :: .ref a :: rest)) := by
  intro T hT X
  obtain ⟨t, st, q⟩ := k _ rfl T hT X
  refine ⟨t, ?_, q⟩
  have h1 := X.bastoreOut hexec (by rw [hT]; exact hP q0 _ ha) ((hK.2 t0 _ ht).1 n (fun j => .int (f j))) (j := i) (by show (i < 0 ∨ (arrV _ _ _).slots.size ≤ _); rw [arrV_size]; exact Classical.byContradiction hout) (g := F0 m pc ls (.int x :: .int i :: .ref a :: rest)) rfl (rest := rest) rfl (by rw [hb]; exact hdg) t
  simp only [arrV_size] at h1
  exact h1 st
theorem vx_caldZ {D : va_G} {cl : List vw_C} {ws : va_W} {tys : List (ClassId × FieldType)} {a : Nat} (hexec : p.tables.exec = Jvm.exec) (hb : c.code = cc) (hK : va_K D cl tys s) (hP : va_P D cl ws H) (q0 t0 : Nat) {cA : ClassId} {n : Nat} {f : Nat → Int32} (ha : ws[q0]? = some (a, .inl (cA, n, .inl f))) (ht : tys[t0]? = some (cA, .char)) {i : Int32} (hout : ¬ vp_in i n) (hdg : decode cc pc = .ok (.caload, 1))
    (k : ∀ tx : String, tx = (toString "Index " ++ toString i ++ toString " out of bounds for length " ++ toString n : String) → vx_Note p l e R s m args below meth c H locs cells slots Q (F0 m pc ls rest) "java/lang/ArrayIndexOutOfBoundsException" tx) : W p l e R s m args below meth c H locs cells slots Q (F0 m pc ls (.int i :: .ref a :: rest)) := by
  intro T hT X
  obtain ⟨t, st, q⟩ := k _ rfl T hT X
  refine ⟨t, ?_, q⟩
  have h1 := X.caloadOut hexec (by rw [hT]; exact hP q0 _ ha) ((hK.2 t0 _ ht).1 n (fun j => .int (f j))) (j := i) (by show (i < 0 ∨ (arrV _ _ _).slots.size ≤ _); rw [arrV_size]; exact Classical.byContradiction hout) (g := F0 m pc ls (.int i :: .ref a :: rest)) rfl (rest := rest) rfl (by rw [hb]; exact hdg) t
  simp only [arrV_size] at h1
  exact h1 st
theorem vx_castZ {D : va_G} {cl : List vw_C} {ws : va_W} {tys : List (ClassId × FieldType)} {a : Nat} (hexec : p.tables.exec = Jvm.exec) (hb : c.code = cc) (hK : va_K D cl tys s) (hP : va_P D cl ws H) (q0 t0 : Nat) {cA : ClassId} {n : Nat} {f : Nat → Int32} (ha : ws[q0]? = some (a, .inl (cA, n, .inl f))) (ht : tys[t0]? = some (cA, .char)) {i : Int32} {x : Int32} (hout : ¬ vp_in i n) (hdg : decode cc pc = .ok (.castore, 1))
    (k : ∀ tx : String, tx = (toString "Index " ++ toString i ++ toString " out of bounds for length " ++ toString n : String) → vx_Note p l e R s m args below meth c H locs cells slots Q (F0 m pc ls rest) "java/lang/ArrayIndexOutOfBoundsException" tx) : W p l e R s m args below meth c H locs cells slots Q (F0 m pc ls (.int x :: .int i :: .ref a :: rest)) := by
  intro T hT X
  obtain ⟨t, st, q⟩ := k _ rfl T hT X
  refine ⟨t, ?_, q⟩
  have h1 := X.castoreOut hexec (by rw [hT]; exact hP q0 _ ha) ((hK.2 t0 _ ht).1 n (fun j => .int (f j))) (j := i) (by show (i < 0 ∨ (arrV _ _ _).slots.size ≤ _); rw [arrV_size]; exact Classical.byContradiction hout) (g := F0 m pc ls (.int x :: .int i :: .ref a :: rest)) rfl (rest := rest) rfl (by rw [hb]; exact hdg) t
  simp only [arrV_size] at h1
  exact h1 st
theorem vx_saldZ {D : va_G} {cl : List vw_C} {ws : va_W} {tys : List (ClassId × FieldType)} {a : Nat} (hexec : p.tables.exec = Jvm.exec) (hb : c.code = cc) (hK : va_K D cl tys s) (hP : va_P D cl ws H) (q0 t0 : Nat) {cA : ClassId} {n : Nat} {f : Nat → Int32} (ha : ws[q0]? = some (a, .inl (cA, n, .inl f))) (ht : tys[t0]? = some (cA, .short)) {i : Int32} (hout : ¬ vp_in i n) (hdg : decode cc pc = .ok (.saload, 1))
    (k : ∀ tx : String, tx = (toString "Index " ++ toString i ++ toString " out of bounds for length " ++ toString n : String) → vx_Note p l e R s m args below meth c H locs cells slots Q (F0 m pc ls rest) "java/lang/ArrayIndexOutOfBoundsException" tx) : W p l e R s m args below meth c H locs cells slots Q (F0 m pc ls (.int i :: .ref a :: rest)) := by
  intro T hT X
  obtain ⟨t, st, q⟩ := k _ rfl T hT X
  refine ⟨t, ?_, q⟩
  have h1 := X.saloadOut hexec (by rw [hT]; exact hP q0 _ ha) ((hK.2 t0 _ ht).1 n (fun j => .int (f j))) (j := i) (by show (i < 0 ∨ (arrV _ _ _).slots.size ≤ _); rw [arrV_size]; exact Classical.byContradiction hout) (g := F0 m pc ls (.int i :: .ref a :: rest)) rfl (rest := rest) rfl (by rw [hb]; exact hdg) t
  simp only [arrV_size] at h1
  exact h1 st
theorem vx_sastZ {D : va_G} {cl : List vw_C} {ws : va_W} {tys : List (ClassId × FieldType)} {a : Nat} (hexec : p.tables.exec = Jvm.exec) (hb : c.code = cc) (hK : va_K D cl tys s) (hP : va_P D cl ws H) (q0 t0 : Nat) {cA : ClassId} {n : Nat} {f : Nat → Int32} (ha : ws[q0]? = some (a, .inl (cA, n, .inl f))) (ht : tys[t0]? = some (cA, .short)) {i : Int32} {x : Int32} (hout : ¬ vp_in i n) (hdg : decode cc pc = .ok (.sastore, 1))
    (k : ∀ tx : String, tx = (toString "Index " ++ toString i ++ toString " out of bounds for length " ++ toString n : String) → vx_Note p l e R s m args below meth c H locs cells slots Q (F0 m pc ls rest) "java/lang/ArrayIndexOutOfBoundsException" tx) : W p l e R s m args below meth c H locs cells slots Q (F0 m pc ls (.int x :: .int i :: .ref a :: rest)) := by
  intro T hT X
  obtain ⟨t, st, q⟩ := k _ rfl T hT X
  refine ⟨t, ?_, q⟩
  have h1 := X.sastoreOut hexec (by rw [hT]; exact hP q0 _ ha) ((hK.2 t0 _ ht).1 n (fun j => .int (f j))) (j := i) (by show (i < 0 ∨ (arrV _ _ _).slots.size ≤ _); rw [arrV_size]; exact Classical.byContradiction hout) (g := F0 m pc ls (.int x :: .int i :: .ref a :: rest)) rfl (rest := rest) rfl (by rw [hb]; exact hdg) t
  simp only [arrV_size] at h1
  exact h1 st
theorem vx_laldZ {D : va_G} {cl : List vw_C} {ws : va_W} {tys : List (ClassId × FieldType)} {a : Nat} (hexec : p.tables.exec = Jvm.exec) (hb : c.code = cc) (hK : va_K D cl tys s) (hP : va_P D cl ws H) (q0 t0 : Nat) {cA : ClassId} {n : Nat} {f : Nat → Int64} (ha : ws[q0]? = some (a, .inl (cA, n, .inr (.inl f)))) (ht : tys[t0]? = some (cA, .long)) {i : Int32} (hout : ¬ vp_in i n) (hdg : decode cc pc = .ok (.laload, 1))
    (k : ∀ tx : String, tx = (toString "Index " ++ toString i ++ toString " out of bounds for length " ++ toString n : String) → vx_Note p l e R s m args below meth c H locs cells slots Q (F0 m pc ls rest) "java/lang/ArrayIndexOutOfBoundsException" tx) : W p l e R s m args below meth c H locs cells slots Q (F0 m pc ls (.int i :: .ref a :: rest)) := by
  intro T hT X
  obtain ⟨t, st, q⟩ := k _ rfl T hT X
  refine ⟨t, ?_, q⟩
  have h1 := X.laloadOut hexec (by rw [hT]; exact hP q0 _ ha) ((hK.2 t0 _ ht).1 n (fun j => .long (f j))) (j := i) (by show (i < 0 ∨ (arrV _ _ _).slots.size ≤ _); rw [arrV_size]; exact Classical.byContradiction hout) (g := F0 m pc ls (.int i :: .ref a :: rest)) rfl (rest := rest) rfl (by rw [hb]; exact hdg) t
  simp only [arrV_size] at h1
  exact h1 st
theorem vx_lastZ {D : va_G} {cl : List vw_C} {ws : va_W} {tys : List (ClassId × FieldType)} {a : Nat} (hexec : p.tables.exec = Jvm.exec) (hb : c.code = cc) (hK : va_K D cl tys s) (hP : va_P D cl ws H) (q0 t0 : Nat) {cA : ClassId} {n : Nat} {f : Nat → Int64} (ha : ws[q0]? = some (a, .inl (cA, n, .inr (.inl f)))) (ht : tys[t0]? = some (cA, .long)) {i : Int32} {x : Int64} (hout : ¬ vp_in i n) (hdg : decode cc pc = .ok (.lastore, 1))
    (k : ∀ tx : String, tx = (toString "Index " ++ toString i ++ toString " out of bounds for length " ++ toString n : String) → vx_Note p l e R s m args below meth c H locs cells slots Q (F0 m pc ls rest) "java/lang/ArrayIndexOutOfBoundsException" tx) : W p l e R s m args below meth c H locs cells slots Q (F0 m pc ls (.long x :: .int i :: .ref a :: rest)) := by
  intro T hT X
  obtain ⟨t, st, q⟩ := k _ rfl T hT X
  refine ⟨t, ?_, q⟩
  have h1 := X.lastoreOut hexec (by rw [hT]; exact hP q0 _ ha) ((hK.2 t0 _ ht).1 n (fun j => .long (f j))) (j := i) (by show (i < 0 ∨ (arrV _ _ _).slots.size ≤ _); rw [arrV_size]; exact Classical.byContradiction hout) (g := F0 m pc ls (.long x :: .int i :: .ref a :: rest)) rfl (rest := rest) rfl (by rw [hb]; exact hdg) t
  simp only [arrV_size] at h1
  exact h1 st
theorem vx_faldZ {D : va_G} {cl : List vw_C} {ws : va_W} {tys : List (ClassId × FieldType)} {a : Nat} (hexec : p.tables.exec = Jvm.exec) (hb : c.code = cc) (hK : va_K D cl tys s) (hP : va_P D cl ws H) (q0 t0 : Nat) {cA : ClassId} {n : Nat} {f : Nat → UInt32} (ha : ws[q0]? = some (a, .inl (cA, n, .inr (.inr (.inl f))))) (ht : tys[t0]? = some (cA, .float)) {i : Int32} (hout : ¬ vp_in i n) (hdg : decode cc pc = .ok (.faload, 1))
    (k : ∀ tx : String, tx = (toString "Index " ++ toString i ++ toString " out of bounds for length " ++ toString n : String) → vx_Note p l e R s m args below meth c H locs cells slots Q (F0 m pc ls rest) "java/lang/ArrayIndexOutOfBoundsException" tx) : W p l e R s m args below meth c H locs cells slots Q (F0 m pc ls (.int i :: .ref a :: rest)) := by
  intro T hT X
  obtain ⟨t, st, q⟩ := k _ rfl T hT X
  refine ⟨t, ?_, q⟩
  have h1 := X.faloadOut hexec (by rw [hT]; exact hP q0 _ ha) ((hK.2 t0 _ ht).1 n (fun j => .float (f j))) (j := i) (by show (i < 0 ∨ (arrV _ _ _).slots.size ≤ _); rw [arrV_size]; exact Classical.byContradiction hout) (g := F0 m pc ls (.int i :: .ref a :: rest)) rfl (rest := rest) rfl (by rw [hb]; exact hdg) t
  simp only [arrV_size] at h1
  exact h1 st
theorem vx_fastZ {D : va_G} {cl : List vw_C} {ws : va_W} {tys : List (ClassId × FieldType)} {a : Nat} (hexec : p.tables.exec = Jvm.exec) (hb : c.code = cc) (hK : va_K D cl tys s) (hP : va_P D cl ws H) (q0 t0 : Nat) {cA : ClassId} {n : Nat} {f : Nat → UInt32} (ha : ws[q0]? = some (a, .inl (cA, n, .inr (.inr (.inl f))))) (ht : tys[t0]? = some (cA, .float)) {i : Int32} {x : UInt32} (hout : ¬ vp_in i n) (hdg : decode cc pc = .ok (.fastore, 1))
    (k : ∀ tx : String, tx = (toString "Index " ++ toString i ++ toString " out of bounds for length " ++ toString n : String) → vx_Note p l e R s m args below meth c H locs cells slots Q (F0 m pc ls rest) "java/lang/ArrayIndexOutOfBoundsException" tx) : W p l e R s m args below meth c H locs cells slots Q (F0 m pc ls (.float x :: .int i :: .ref a :: rest)) := by
  intro T hT X
  obtain ⟨t, st, q⟩ := k _ rfl T hT X
  refine ⟨t, ?_, q⟩
  have h1 := X.fastoreOut hexec (by rw [hT]; exact hP q0 _ ha) ((hK.2 t0 _ ht).1 n (fun j => .float (f j))) (j := i) (by show (i < 0 ∨ (arrV _ _ _).slots.size ≤ _); rw [arrV_size]; exact Classical.byContradiction hout) (g := F0 m pc ls (.float x :: .int i :: .ref a :: rest)) rfl (rest := rest) rfl (by rw [hb]; exact hdg) t
  simp only [arrV_size] at h1
  exact h1 st
theorem vx_daldZ {D : va_G} {cl : List vw_C} {ws : va_W} {tys : List (ClassId × FieldType)} {a : Nat} (hexec : p.tables.exec = Jvm.exec) (hb : c.code = cc) (hK : va_K D cl tys s) (hP : va_P D cl ws H) (q0 t0 : Nat) {cA : ClassId} {n : Nat} {f : Nat → UInt64} (ha : ws[q0]? = some (a, .inl (cA, n, .inr (.inr (.inr (.inl f)))))) (ht : tys[t0]? = some (cA, .double)) {i : Int32} (hout : ¬ vp_in i n) (hdg : decode cc pc = .ok (.daload, 1))
    (k : ∀ tx : String, tx = (toString "Index " ++ toString i ++ toString " out of bounds for length " ++ toString n : String) → vx_Note p l e R s m args below meth c H locs cells slots Q (F0 m pc ls rest) "java/lang/ArrayIndexOutOfBoundsException" tx) : W p l e R s m args below meth c H locs cells slots Q (F0 m pc ls (.int i :: .ref a :: rest)) := by
  intro T hT X
  obtain ⟨t, st, q⟩ := k _ rfl T hT X
  refine ⟨t, ?_, q⟩
  have h1 := X.daloadOut hexec (by rw [hT]; exact hP q0 _ ha) ((hK.2 t0 _ ht).1 n (fun j => .double (f j))) (j := i) (by show (i < 0 ∨ (arrV _ _ _).slots.size ≤ _); rw [arrV_size]; exact Classical.byContradiction hout) (g := F0 m pc ls (.int i :: .ref a :: rest)) rfl (rest := rest) rfl (by rw [hb]; exact hdg) t
  simp only [arrV_size] at h1
  exact h1 st
theorem vx_dastZ {D : va_G} {cl : List vw_C} {ws : va_W} {tys : List (ClassId × FieldType)} {a : Nat} (hexec : p.tables.exec = Jvm.exec) (hb : c.code = cc) (hK : va_K D cl tys s) (hP : va_P D cl ws H) (q0 t0 : Nat) {cA : ClassId} {n : Nat} {f : Nat → UInt64} (ha : ws[q0]? = some (a, .inl (cA, n, .inr (.inr (.inr (.inl f)))))) (ht : tys[t0]? = some (cA, .double)) {i : Int32} {x : UInt64} (hout : ¬ vp_in i n) (hdg : decode cc pc = .ok (.dastore, 1))
    (k : ∀ tx : String, tx = (toString "Index " ++ toString i ++ toString " out of bounds for length " ++ toString n : String) → vx_Note p l e R s m args below meth c H locs cells slots Q (F0 m pc ls rest) "java/lang/ArrayIndexOutOfBoundsException" tx) : W p l e R s m args below meth c H locs cells slots Q (F0 m pc ls (.double x :: .int i :: .ref a :: rest)) := by
  intro T hT X
  obtain ⟨t, st, q⟩ := k _ rfl T hT X
  refine ⟨t, ?_, q⟩
  have h1 := X.dastoreOut hexec (by rw [hT]; exact hP q0 _ ha) ((hK.2 t0 _ ht).1 n (fun j => .double (f j))) (j := i) (by show (i < 0 ∨ (arrV _ _ _).slots.size ≤ _); rw [arrV_size]; exact Classical.byContradiction hout) (g := F0 m pc ls (.double x :: .int i :: .ref a :: rest)) rfl (rest := rest) rfl (by rw [hb]; exact hdg) t
  simp only [arrV_size] at h1
  exact h1 st
theorem vx_arraylengthN (hexec : p.tables.exec = Jvm.exec) (hb : c.code = cc) (hdg : decode cc pc = .ok (.arraylength, 1)) (k : vx_NoteN p l e R s m args below meth c H locs cells slots Q (F0 m pc ls rest)) : W p l e R s m args below meth c H locs cells slots Q (F0 m pc ls (.null :: rest)) := by
  intro T hT X
  obtain ⟨t, st, q⟩ := k T hT X
  exact ⟨t, X.arraylengthNull hexec (g := F0 m pc ls (.null :: rest)) rfl (rest := rest) rfl (by rw [hb]; exact hdg) t st, q⟩
theorem vx_ialoadN (hexec : p.tables.exec = Jvm.exec) (hb : c.code = cc) {i : Int32} (hdg : decode cc pc = .ok (.iaload, 1)) (k : vx_NoteN p l e R s m args below meth c H locs cells slots Q (F0 m pc ls rest)) : W p l e R s m args below meth c H locs cells slots Q (F0 m pc ls (.int i :: .null :: rest)) := by
  intro T hT X
  obtain ⟨t, st, q⟩ := k T hT X
  exact ⟨t, X.ialoadNull hexec (g := F0 m pc ls (.int i :: .null :: rest)) rfl (rest := rest) rfl (by rw [hb]; exact hdg) t st, q⟩
theorem vx_laloadN (hexec : p.tables.exec = Jvm.exec) (hb : c.code = cc) {i : Int32} (hdg : decode cc pc = .ok (.laload, 1)) (k : vx_NoteN p l e R s m args below meth c H locs cells slots Q (F0 m pc ls rest)) : W p l e R s m args below meth c H locs cells slots Q (F0 m pc ls (.int i :: .null :: rest)) := by
  intro T hT X
  obtain ⟨t, st, q⟩ := k T hT X
  exact ⟨t, X.laloadNull hexec (g := F0 m pc ls (.int i :: .null :: rest)) rfl (rest := rest) rfl (by rw [hb]; exact hdg) t st, q⟩
theorem vx_faloadN (hexec : p.tables.exec = Jvm.exec) (hb : c.code = cc) {i : Int32} (hdg : decode cc pc = .ok (.faload, 1)) (k : vx_NoteN p l e R s m args below meth c H locs cells slots Q (F0 m pc ls rest)) : W p l e R s m args below meth c H locs cells slots Q (F0 m pc ls (.int i :: .null :: rest)) := by
  intro T hT X
  obtain ⟨t, st, q⟩ := k T hT X
  exact ⟨t, X.faloadNull hexec (g := F0 m pc ls (.int i :: .null :: rest)) rfl (rest := rest) rfl (by rw [hb]; exact hdg) t st, q⟩
theorem vx_daloadN (hexec : p.tables.exec = Jvm.exec) (hb : c.code = cc) {i : Int32} (hdg : decode cc pc = .ok (.daload, 1)) (k : vx_NoteN p l e R s m args below meth c H locs cells slots Q (F0 m pc ls rest)) : W p l e R s m args below meth c H locs cells slots Q (F0 m pc ls (.int i :: .null :: rest)) := by
  intro T hT X
  obtain ⟨t, st, q⟩ := k T hT X
  exact ⟨t, X.daloadNull hexec (g := F0 m pc ls (.int i :: .null :: rest)) rfl (rest := rest) rfl (by rw [hb]; exact hdg) t st, q⟩
theorem vx_aaloadN (hexec : p.tables.exec = Jvm.exec) (hb : c.code = cc) {i : Int32} (hdg : decode cc pc = .ok (.aaload, 1)) (k : vx_NoteN p l e R s m args below meth c H locs cells slots Q (F0 m pc ls rest)) : W p l e R s m args below meth c H locs cells slots Q (F0 m pc ls (.int i :: .null :: rest)) := by
  intro T hT X
  obtain ⟨t, st, q⟩ := k T hT X
  exact ⟨t, X.aaloadNull hexec (g := F0 m pc ls (.int i :: .null :: rest)) rfl (rest := rest) rfl (by rw [hb]; exact hdg) t st, q⟩
theorem vx_baloadN (hexec : p.tables.exec = Jvm.exec) (hb : c.code = cc) {i : Int32} (hdg : decode cc pc = .ok (.baload, 1)) (k : vx_NoteN p l e R s m args below meth c H locs cells slots Q (F0 m pc ls rest)) : W p l e R s m args below meth c H locs cells slots Q (F0 m pc ls (.int i :: .null :: rest)) := by
  intro T hT X
  obtain ⟨t, st, q⟩ := k T hT X
  exact ⟨t, X.baloadNull hexec (g := F0 m pc ls (.int i :: .null :: rest)) rfl (rest := rest) rfl (by rw [hb]; exact hdg) t st, q⟩
theorem vx_caloadN (hexec : p.tables.exec = Jvm.exec) (hb : c.code = cc) {i : Int32} (hdg : decode cc pc = .ok (.caload, 1)) (k : vx_NoteN p l e R s m args below meth c H locs cells slots Q (F0 m pc ls rest)) : W p l e R s m args below meth c H locs cells slots Q (F0 m pc ls (.int i :: .null :: rest)) := by
  intro T hT X
  obtain ⟨t, st, q⟩ := k T hT X
  exact ⟨t, X.caloadNull hexec (g := F0 m pc ls (.int i :: .null :: rest)) rfl (rest := rest) rfl (by rw [hb]; exact hdg) t st, q⟩
theorem vx_saloadN (hexec : p.tables.exec = Jvm.exec) (hb : c.code = cc) {i : Int32} (hdg : decode cc pc = .ok (.saload, 1)) (k : vx_NoteN p l e R s m args below meth c H locs cells slots Q (F0 m pc ls rest)) : W p l e R s m args below meth c H locs cells slots Q (F0 m pc ls (.int i :: .null :: rest)) := by
  intro T hT X
  obtain ⟨t, st, q⟩ := k T hT X
  exact ⟨t, X.saloadNull hexec (g := F0 m pc ls (.int i :: .null :: rest)) rfl (rest := rest) rfl (by rw [hb]; exact hdg) t st, q⟩
theorem vx_iastoreN (hexec : p.tables.exec = Jvm.exec) (hb : c.code = cc) {x : Int32} {i : Int32} (hdg : decode cc pc = .ok (.iastore, 1)) (k : vx_NoteN p l e R s m args below meth c H locs cells slots Q (F0 m pc ls rest)) : W p l e R s m args below meth c H locs cells slots Q (F0 m pc ls (.int x :: .int i :: .null :: rest)) := by
  intro T hT X
  obtain ⟨t, st, q⟩ := k T hT X
  exact ⟨t, X.iastoreNull hexec (g := F0 m pc ls (.int x :: .int i :: .null :: rest)) rfl (rest := rest) rfl (by rw [hb]; exact hdg) t st, q⟩
theorem vx_lastoreN (hexec : p.tables.exec = Jvm.exec) (hb : c.code = cc) {x : Int64} {i : Int32} (hdg : decode cc pc = .ok (.lastore, 1)) (k : vx_NoteN p l e R s m args below meth c H locs cells slots Q (F0 m pc ls rest)) : W p l e R s m args below meth c H locs cells slots Q (F0 m pc ls (.long x :: .int i :: .null :: rest)) := by
  intro T hT X
  obtain ⟨t, st, q⟩ := k T hT X
  exact ⟨t, X.lastoreNull hexec (g := F0 m pc ls (.long x :: .int i :: .null :: rest)) rfl (rest := rest) rfl (by rw [hb]; exact hdg) t st, q⟩
theorem vx_fastoreN (hexec : p.tables.exec = Jvm.exec) (hb : c.code = cc) {x : UInt32} {i : Int32} (hdg : decode cc pc = .ok (.fastore, 1)) (k : vx_NoteN p l e R s m args below meth c H locs cells slots Q (F0 m pc ls rest)) : W p l e R s m args below meth c H locs cells slots Q (F0 m pc ls (.float x :: .int i :: .null :: rest)) := by
  intro T hT X
  obtain ⟨t, st, q⟩ := k T hT X
  exact ⟨t, X.fastoreNull hexec (g := F0 m pc ls (.float x :: .int i :: .null :: rest)) rfl (rest := rest) rfl (by rw [hb]; exact hdg) t st, q⟩
theorem vx_dastoreN (hexec : p.tables.exec = Jvm.exec) (hb : c.code = cc) {x : UInt64} {i : Int32} (hdg : decode cc pc = .ok (.dastore, 1)) (k : vx_NoteN p l e R s m args below meth c H locs cells slots Q (F0 m pc ls rest)) : W p l e R s m args below meth c H locs cells slots Q (F0 m pc ls (.double x :: .int i :: .null :: rest)) := by
  intro T hT X
  obtain ⟨t, st, q⟩ := k T hT X
  exact ⟨t, X.dastoreNull hexec (g := F0 m pc ls (.double x :: .int i :: .null :: rest)) rfl (rest := rest) rfl (by rw [hb]; exact hdg) t st, q⟩
theorem vx_bastoreN (hexec : p.tables.exec = Jvm.exec) (hb : c.code = cc) {x : Int32} {i : Int32} (hdg : decode cc pc = .ok (.bastore, 1)) (k : vx_NoteN p l e R s m args below meth c H locs cells slots Q (F0 m pc ls rest)) : W p l e R s m args below meth c H locs cells slots Q (F0 m pc ls (.int x :: .int i :: .null :: rest)) := by
  intro T hT X
  obtain ⟨t, st, q⟩ := k T hT X
  exact ⟨t, X.bastoreNull hexec (g := F0 m pc ls (.int x :: .int i :: .null :: rest)) rfl (rest := rest) rfl (by rw [hb]; exact hdg) t st, q⟩
theorem vx_castoreN (hexec : p.tables.exec = Jvm.exec) (hb : c.code = cc) {x : Int32} {i : Int32} (hdg : decode cc pc = .ok (.castore, 1)) (k : vx_NoteN p l e R s m args below meth c H locs cells slots Q (F0 m pc ls rest)) : W p l e R s m args below meth c H locs cells slots Q (F0 m pc ls (.int x :: .int i :: .null :: rest)) := by
  intro T hT X
  obtain ⟨t, st, q⟩ := k T hT X
  exact ⟨t, X.castoreNull hexec (g := F0 m pc ls (.int x :: .int i :: .null :: rest)) rfl (rest := rest) rfl (by rw [hb]; exact hdg) t st, q⟩
theorem vx_sastoreN (hexec : p.tables.exec = Jvm.exec) (hb : c.code = cc) {x : Int32} {i : Int32} (hdg : decode cc pc = .ok (.sastore, 1)) (k : vx_NoteN p l e R s m args below meth c H locs cells slots Q (F0 m pc ls rest)) : W p l e R s m args below meth c H locs cells slots Q (F0 m pc ls (.int x :: .int i :: .null :: rest)) := by
  intro T hT X
  obtain ⟨t, st, q⟩ := k T hT X
  exact ⟨t, X.sastoreNull hexec (g := F0 m pc ls (.int x :: .int i :: .null :: rest)) rfl (rest := rest) rfl (by rw [hb]; exact hdg) t st, q⟩
theorem vx_invokeN {own C : String} {index maxL : Nat} {y : MethodName} {bytes : ByteArray} {ret : Option FieldType} (hexec : p.tables.exec = Jvm.exec) (hb : c.code = cc) (hown : s.vm.findClass own = some m.cls) (hlink : (Cond.methodLink own index y).before args s = true) (hinst : (Cond.instanceMethod y).before args s = true) (hcode : (Cond.code y bytes maxL ret).before args s = true) (hsel : (Cond.selects C y y).before args s = true)
    (hx : y.cls ≠ "java/lang/invoke/MethodHandle" ∧ y.cls ≠ "java/lang/invoke/VarHandle") {As : List Value} (hlen : (parseMethodDescriptor y.desc).map (fun d => d.parameters.length) = some As.length) (hdg : decode cc pc = .ok (.invokevirtual index, 3))
    (k : vx_NoteN p l e R s m args below meth c H locs cells slots Q (F0 m pc ls rest)) {st0 : List Value} (hst : st0 = As.reverse ++ .null :: rest) : W p l e R s m args below meth c H locs cells slots Q (F0 m pc ls st0) := by
  intro T hT X
  obtain ⟨r0, r, hn, hrm, hstR, hsigR⟩ := va_Decl.of hinst hcode
  obtain ⟨c2, r2, m2, q1, q2, q3, q4, kP, hkP, hkPi⟩ := Cond.selects_spec hsel
  cases hn.symm.trans q3
  have hl9 : As.length = r.sig.parameters.length := by
    rw [hsigR] at hlen
    exact (Option.some.inj hlen).symm
  obtain ⟨vm', X1, st1⟩ := X.invokevirtualNull hexec hown hlink hn hrm hstR hkP hkPi hx (g := F0 m pc ls st0) rfl (argsL := As) (rest := rest) hl9 hst (by rw [hb]; exact hdg)
  obtain ⟨t, st, q⟩ := k (T.setVm vm') hT X1
  exact ⟨t, st1 t st, q⟩
theorem vx_newarrayZ {atype : ArrayType} (hexec : p.tables.exec = Jvm.exec) (hb : c.code = cc) {n : Int32} (h0 : n < 0) (hdg : decode cc pc = .ok (.newarray atype, 2)) (k : ∀ tx : String, tx = toString n → vx_Note p l e R s m args below meth c H locs cells slots Q (F0 m pc ls rest) "java/lang/NegativeArraySizeException" tx) : W p l e R s m args below meth c H locs cells slots Q (F0 m pc ls (.int n :: rest)) := by
  intro T hT X
  obtain ⟨t, st, q⟩ := k _ rfl T hT X
  exact ⟨t, X.newarrayNegative hexec (g := F0 m pc ls (.int n :: rest)) rfl h0 (rest := rest) rfl (by rw [hb]; exact hdg) t st, q⟩
end
end VXM
/-! ===== END ===== -/
/-! ===== BEGIN an exception as an object: made, kept, thrown later (no traces kept) ===== -/
section VXK
variable {p : Program} {l : Launch} {e : Env} {R : Room} {s : State} {m₀ : MethodId} {args : Array Value} {below : List Frame} {meth : Method} {c : Code} {W : State} {locs : List Loc} {cells slots : Nat}
set_option maxHeartbeats 1000000 in
theorem vx_ctorMadeS (X : Stand p l e R s m₀ args below meth c W locs cells slots) (hexec : p.tables.exec = Jvm.exec) (htr : e.platform.stackTraces = false) {own cls : String} {names : List String} {ic : Nat}
    (hown : s.vm.findClass own = some m₀.cls) (hcls : Bundle.fit cls = true) (hnames : ∀ n ∈ names, Bundle.fit n = true)
    (h : ∀ a ∈ Bundle.ownAtoms own ic cls names, a.before args s = true)
    (hlocs : ∀ x ∈ locs, ∀ cell, s.heap[x.base]? = some cell → cell.vm.isStatics = false)
    {a : Addr} {cX : ClassId} {kX : Class} (hfoundX : s.vm.findClass cls = some cX) (hkX : s.vm.classes[cX]? = some kX) (hcell : W.heap[a]? = some (freshCell cX kX)) (hnew : s.heap.size ≤ a)
    {msg : Value} (hmsg : msg.isRef = true)
    {g : JFrame} (hg : g.method = m₀) (hsize : g.locals.size = c.maxLocals) {rest : List Value} (hstack : g.stack = msg :: .ref a :: .ref a :: rest)
    (hd6 : decode c.code g.pc = .ok (.invokespecial ic, 3))
    (hRframes : names.length + 3 < R.frames) (hRlocals : 2 * g.monitorRoom + ((Value.ref a :: rest).map fun v => v.category).sum + (13 * (names.length + 1) + 42) ≤ R.locals) :
    ∃ (V : State) (ce : Cell) (L : List Loc), Stand p l e R s m₀ args below meth c (V.setCell a ce) (locs ++ L) cells slots ∧ (∀ y ∈ L, y.base = a) ∧ a < V.heap.size ∧ ce.cls = cX ∧ ce.vm = .none ∧
      ∀ target, Steps p.tables e below ((V.setCell a ce).setTop { g with stack := .ref a :: rest, pc := g.pc + 3 }) target → Steps p.tables e below (W.setTop g) target := by
  have howns : e.platform.frameOwnsMonitors = true := by rw [X.admits.platform]
  have hfin : e.platform.finalization = false := by rw [X.admits.platform]
  have hpl : e.platform.magicAccessors = ({} : Platform).magicAccessors := by rw [X.admits.platform]
  have a' : ∀ x, x ∈ Bundle.ownAtoms own ic cls names → x.holds args s none s [] = true := fun x hx => h x hx
  obtain ⟨T, Z0, L, -, Y⟩ := ThrowableC.of_atoms (args := args) howns hfin hpl (fun x hx => h x (by simp [Bundle.ownAtoms, hx]))
  obtain ⟨Z, M, LZ, LM, hnZ⟩ := Init0T.ofS_atoms (args := args) hpl L Y (fun x hx => h x (by simp [Bundle.ownAtoms, hx]))
  obtain ⟨P1, Ps, hlen, L1, hL, hP1m, hlink1, hlink⟩ := Bundle.chainS (args := args) hpl hnZ names cls hcls hnames (fun x hx => h x (by simp [Bundle.ownAtoms, hx]))
  have hfound : s.vm.findClass cls = some P1.m.cls := findClass_of_methodNamed hP1m
  cases Option.some.inj (hfoundX.symm.trans hfound)
  obtain ⟨c1, kX', hc1, hk, hord, -, -, hn6⟩ := Cond.instantiable_spec (a' (.instantiable cls 6) (by simp [Bundle.ownAtoms]))
  cases Option.some.inj (hc1.symm.trans hfound)
  cases Option.some.inj (hkX.symm.trans hk)
  have hsel0 : selectMethod e.platform s.vm P1.m.cls T.fill0 = .method T.fill0 := by
    obtain ⟨c2, r2, m2, q1, q2, q3, q4, -⟩ := Cond.selects_spec (a' (.selects cls Bundle.tFill0 Bundle.tFill0) (by simp [Bundle.ownAtoms]))
    cases Option.some.inj (q1.symm.trans hfound)
    cases Option.some.inj (q2.symm.trans (State.methodFound?_of_named Y.fill0 (by decide)))
    cases Option.some.inj (q3.symm.trans Y.fill0)
    rw [Launch.admits_selectMethod X.admits]; exact q4
  have hselF : selectMethod e.platform s.vm P1.m.cls T.fill = .method T.fill := by
    obtain ⟨c2, r2, m2, q1, q2, q3, q4, -⟩ := Cond.selects_spec (a' (.selects cls Bundle.tFill Bundle.tFill) (by simp [Bundle.ownAtoms]))
    cases Option.some.inj (q1.symm.trans hfound)
    cases Option.some.inj (q2.symm.trans (State.methodFound?_of_named Y.fill (by decide)))
    cases Option.some.inj (q3.symm.trans Y.fill)
    rw [Launch.admits_selectMethod X.admits]; exact q4
  obtain ⟨cellS0, hcS0, hiss⟩ := Y.statics
  obtain ⟨u0, hu0⟩ := Cond.staticRefV Y.unassigned L.unassignedStatic L.statics hcS0 hiss (a' (.isRef (.static Bundle.tN "UNASSIGNED_STACK" Bundle.steD)) (by simp [Bundle.ownAtoms]))
  obtain ⟨sen, hsen⟩ := Cond.staticRefV Y.sentinel L.sentinelStatic L.statics hcS0 hiss (a' (.isRef (.static Bundle.tN "SUPPRESSED_SENTINEL" Bundle.listD)) (by simp [Bundle.ownAtoms]))
  obtain ⟨ci198, i198, fB, hk198, hg198, ha198, hsB, -, hnB, htB, hffB⟩ := Cond.ownField (t := .object "java/lang/Object") Y.found L.cls (by decide +kernel) (a' (.fieldLink Bundle.tN 198 Bundle.tN "backtrace" "Ljava/lang/Object;") (by simp [Bundle.ownAtoms])) (a' (.lays Bundle.tN Bundle.tN "backtrace" "Ljava/lang/Object;") (by simp [Bundle.ownAtoms])) e.platform hpl
  obtain ⟨cellS, hcS', heS, -, hkeep⟩ := X.same.2.2.2.2.2 T.aS cellS0 hcS0
  have hcellS : W.heap[T.aS]? = some cellS := hcS'
  have hout' : ∀ i, (⟨T.aS, i⟩ : Loc) ∉ locs := fun i hmem => by
    have := hlocs _ hmem cellS0 hcS0
    rw [hiss] at this; cases this
  have hknownS : cellS.vm ≠ .unknown := by
    rw [heS]; intro hu
    rw [show cellS0.vm = .unknown from hu] at hiss
    cases hiss
  have hneS : T.aS ≠ a := Nat.ne_of_lt (Nat.lt_of_lt_of_le (Array.getElem?_eq_some_iff.mp hcS0).1 hnew)
  obtain ⟨iM, hffM⟩ := Y.msg
  obtain ⟨tyC, dC, hdC, hdnC⟩ := Cond.laysAt hfound hk Y.cause (a' (.lays cls Bundle.tN "cause" "Ljava/lang/Throwable;") (by simp [Bundle.ownAtoms]))
  obtain ⟨tyS, dS, hdS, hdnS⟩ := Cond.laysAt hfound hk Y.stack (a' (.lays cls Bundle.tN "stackTrace" Bundle.steD) (by simp [Bundle.ownAtoms]))
  obtain ⟨tyP, dP, hdP, hdnP⟩ := Cond.laysAt hfound hk Y.supp (a' (.lays cls Bundle.tN "suppressedExceptions" Bundle.listD) (by simp [Bundle.ownAtoms]))
  obtain ⟨tyM, dM, hdM, hdnM⟩ := Cond.laysAt hfound hk hffM (a' (.lays cls Bundle.tN "detailMessage" "Ljava/lang/String;") (by simp [Bundle.ownAtoms]))
  obtain ⟨tyB, dB, hdB, hdnB⟩ := Cond.laysAt hfound hk hffB (a' (.lays cls Bundle.tN "backtrace" "Ljava/lang/Object;") (by simp [Bundle.ownAtoms]))
  have bC := Cond.laysApart hdB hdC hdnB hdnC (by rw [hnB, Y.causeName]; decide)
  have bS := Cond.laysApart hdB hdS hdnB hdnS (by rw [hnB, Y.stackName]; decide)
  have bP := Cond.laysApart hdB hdP hdnB hdnP (by rw [hnB, Y.suppName]; decide)
  have hskip : SkipFacts T e.platform s (fun u => u) u0 ((preparedCellV T.toThrowableT (freshCell P1.m.cls kX) a u0 sen).withEntry W.cur) :=
    ⟨{ ci198 := ci198, i198 := i198, fBack := fB }, ⟨hk198, hg198, ha198, hsB⟩, by
      have := fresh_default (c := P1.m.cls) tyB
      rw [htB] at this
      simpa [preparedCellV, Cell.setSlot, Cell.withEntry, Array.getElem?_setIfInBounds, bC, bS, bP, bC.symm, bS.symm, bP.symm, defaultValue] using this, fun _ _ => rfl⟩
  obtain ⟨tm, methC, cdC, kC, vm₁, hnC, -, -, -, -, -, -, -, hW₁, st1⟩ := Steps.initColdS (tb := p.tables) (e := e) (below := below) (s := s) (U := W) X.here hexec X.warmed hpl hown (t := Bundle.initS cls) rfl rfl (Bundle.fit_spec hcls).2
    (a' (.methodLink own ic (Bundle.initS cls)) (by simp [Bundle.ownAtoms])) (h (.instanceMethod (Bundle.initS cls)) (by cases names <;> simp [Bundle.ownAtoms, Bundle.chainSAtoms, Bundle.passSAtoms])) (bytes := Bundle.six) (maxL := 2) (h (.code (Bundle.initS cls) Bundle.six 2 none) (by cases names <;> simp [Bundle.ownAtoms, Bundle.chainSAtoms, Bundle.passSAtoms]))
    (f := g) hg (a := a) (msg := msg) (rest := .ref a :: rest) hstack hd6
  cases Option.some.inj (hnC.symm.trans hP1m)
  have X₁ := X.noted hW₁
  obtain ⟨vm₂, X₂, st2⟩ := X₁.ctorMessageOffV hexec (g := { g with stack := .ref a :: rest }) hg hsize T L Z LZ M LM (P1 :: Ps)
    (fun P hP => by rcases List.mem_cons.mp hP with rfl | hP; exact L1; exact hL P hP) ⟨hlink1, hlink⟩ (u0 := u0) (sen := sen) (self := a) hmsg (cell := freshCell P1.m.cls kX) (cellS := cellS)
    hcell (fun _ => by simp) (by simp) rfl rfl hsel0 hselF hcellS hneS hknownS (by rw [hkeep _ (hout' _)]; exact hu0) (by rw [hkeep _ (hout' _)]; exact hsen)
    (Takes.of_laid hk hord tyC (by rw [Y.causeType]; rfl)) (Takes.of_laid hk hord tyS (by rw [Y.stackType]; exact fits_refV_array _ u0)) (Takes.of_laid hk hord tyP (by rw [Y.suppType]; exact fits_refV_object _ sen))
    (Takes.of_laid hk hord tyM (by rw [Y.msgType]; exact fits_refV_object _ ⟨msg, hmsg⟩)) Y.objLocals hskip htr [] hd6
    (by simp only [List.length_cons, hlen]; omega) (by simp only [List.length_cons, hlen]; exact hRlocals)
  have hlt : a < ((W.setVm vm₁).setVm vm₂).heap.size := (Array.getElem?_eq_some_iff.mp hcell).1
  refine ⟨(W.setVm vm₁).setVm vm₂, _, _, X₂, fun y hy => ?_, hlt, rfl, rfl, fun target hwalk => st1 _ (fun acts => ?_)⟩
  · simp only [List.mem_cons, List.not_mem_nil, or_false] at hy
    rcases hy with rfl | rfl | rfl | rfl | rfl <;> rfl
  · rw [doInvoke_state]
    exact st2 _ hwalk
set_option maxHeartbeats 1000000 in
theorem vx_ctorMade0 (X : Stand p l e R s m₀ args below meth c W locs cells slots) (hexec : p.tables.exec = Jvm.exec) (htr : e.platform.stackTraces = false) {own cls : String} {names : List String} {ic : Nat}
    (hown : s.vm.findClass own = some m₀.cls) (hcls : Bundle.fit cls = true) (hnames : ∀ n ∈ names, Bundle.fit n = true)
    (h : ∀ a ∈ Bundle.ownAtoms0 own ic cls names, a.before args s = true)
    (hlocs : ∀ x ∈ locs, ∀ cell, s.heap[x.base]? = some cell → cell.vm.isStatics = false)
    {a : Addr} {cX : ClassId} {kX : Class} (hfoundX : s.vm.findClass cls = some cX) (hkX : s.vm.classes[cX]? = some kX) (hcell : W.heap[a]? = some (freshCell cX kX)) (hnew : s.heap.size ≤ a)
    {g : JFrame} (hg : g.method = m₀) (hsize : g.locals.size = c.maxLocals) {rest : List Value} (hstack : g.stack = .ref a :: .ref a :: rest)
    (hd6 : decode c.code g.pc = .ok (.invokespecial ic, 3))
    (hRframes : names.length + 3 < R.frames) (hRlocals : 2 * g.monitorRoom + ((Value.ref a :: rest).map fun v => v.category).sum + (13 * (names.length + 1) + 41) ≤ R.locals) :
    ∃ (V : State) (ce : Cell) (L : List Loc), Stand p l e R s m₀ args below meth c (V.setCell a ce) (locs ++ L) cells slots ∧ (∀ y ∈ L, y.base = a) ∧ a < V.heap.size ∧ ce.cls = cX ∧ ce.vm = .none ∧
      ∀ target, Steps p.tables e below ((V.setCell a ce).setTop { g with stack := .ref a :: rest, pc := g.pc + 3 }) target → Steps p.tables e below (W.setTop g) target := by
  have howns : e.platform.frameOwnsMonitors = true := by rw [X.admits.platform]
  have hfin : e.platform.finalization = false := by rw [X.admits.platform]
  have hpl : e.platform.magicAccessors = ({} : Platform).magicAccessors := by rw [X.admits.platform]
  have a' : ∀ x, x ∈ Bundle.ownAtoms0 own ic cls names → x.holds args s none s [] = true := fun x hx => h x hx
  obtain ⟨T, Z, L, LZ, Y⟩ := ThrowableC.of_atoms (args := args) howns hfin hpl (fun x hx => h x (by simp [Bundle.ownAtoms0, hx]))
  obtain ⟨P1, Ps, hlen, L1, hL, hP1m, hlink1, hlink⟩ := Bundle.chain0 (args := args) hpl Y.init0 names cls hcls hnames (fun x hx => h x (by simp [Bundle.ownAtoms0, hx]))
  have hfound : s.vm.findClass cls = some P1.m.cls := findClass_of_methodNamed hP1m
  cases Option.some.inj (hfoundX.symm.trans hfound)
  obtain ⟨c1, kX', hc1, hk, hord, -, -, hn6⟩ := Cond.instantiable_spec (a' (.instantiable cls 6) (by simp [Bundle.ownAtoms0]))
  cases Option.some.inj (hc1.symm.trans hfound)
  cases Option.some.inj (hkX.symm.trans hk)
  have hsel0 : selectMethod e.platform s.vm P1.m.cls T.fill0 = .method T.fill0 := by
    obtain ⟨c2, r2, m2, q1, q2, q3, q4, -⟩ := Cond.selects_spec (a' (.selects cls Bundle.tFill0 Bundle.tFill0) (by simp [Bundle.ownAtoms0]))
    cases Option.some.inj (q1.symm.trans hfound)
    cases Option.some.inj (q2.symm.trans (State.methodFound?_of_named Y.fill0 (by decide)))
    cases Option.some.inj (q3.symm.trans Y.fill0)
    rw [Launch.admits_selectMethod X.admits]; exact q4
  have hselF : selectMethod e.platform s.vm P1.m.cls T.fill = .method T.fill := by
    obtain ⟨c2, r2, m2, q1, q2, q3, q4, -⟩ := Cond.selects_spec (a' (.selects cls Bundle.tFill Bundle.tFill) (by simp [Bundle.ownAtoms0]))
    cases Option.some.inj (q1.symm.trans hfound)
    cases Option.some.inj (q2.symm.trans (State.methodFound?_of_named Y.fill (by decide)))
    cases Option.some.inj (q3.symm.trans Y.fill)
    rw [Launch.admits_selectMethod X.admits]; exact q4
  obtain ⟨cellS0, hcS0, hiss⟩ := Y.statics
  obtain ⟨u0, hu0⟩ := Cond.staticRefV Y.unassigned L.unassignedStatic L.statics hcS0 hiss (a' (.isRef (.static Bundle.tN "UNASSIGNED_STACK" Bundle.steD)) (by simp [Bundle.ownAtoms0]))
  obtain ⟨sen, hsen⟩ := Cond.staticRefV Y.sentinel L.sentinelStatic L.statics hcS0 hiss (a' (.isRef (.static Bundle.tN "SUPPRESSED_SENTINEL" Bundle.listD)) (by simp [Bundle.ownAtoms0]))
  obtain ⟨ci198, i198, fB, hk198, hg198, ha198, hsB, -, hnB, htB, hffB⟩ := Cond.ownField (t := .object "java/lang/Object") Y.found L.cls (by decide +kernel) (a' (.fieldLink Bundle.tN 198 Bundle.tN "backtrace" "Ljava/lang/Object;") (by simp [Bundle.ownAtoms0])) (a' (.lays Bundle.tN Bundle.tN "backtrace" "Ljava/lang/Object;") (by simp [Bundle.ownAtoms0])) e.platform hpl
  obtain ⟨cellS, hcS', heS, -, hkeep⟩ := X.same.2.2.2.2.2 T.aS cellS0 hcS0
  have hcellS : W.heap[T.aS]? = some cellS := hcS'
  have hout' : ∀ i, (⟨T.aS, i⟩ : Loc) ∉ locs := fun i hmem => by
    have := hlocs _ hmem cellS0 hcS0
    rw [hiss] at this; cases this
  have hknownS : cellS.vm ≠ .unknown := by
    rw [heS]; intro hu
    rw [show cellS0.vm = .unknown from hu] at hiss
    cases hiss
  have hneS : T.aS ≠ a := Nat.ne_of_lt (Nat.lt_of_lt_of_le (Array.getElem?_eq_some_iff.mp hcS0).1 hnew)
  obtain ⟨iM, hffM⟩ := Y.msg
  obtain ⟨tyC, dC, hdC, hdnC⟩ := Cond.laysAt hfound hk Y.cause (a' (.lays cls Bundle.tN "cause" "Ljava/lang/Throwable;") (by simp [Bundle.ownAtoms0]))
  obtain ⟨tyS, dS, hdS, hdnS⟩ := Cond.laysAt hfound hk Y.stack (a' (.lays cls Bundle.tN "stackTrace" Bundle.steD) (by simp [Bundle.ownAtoms0]))
  obtain ⟨tyP, dP, hdP, hdnP⟩ := Cond.laysAt hfound hk Y.supp (a' (.lays cls Bundle.tN "suppressedExceptions" Bundle.listD) (by simp [Bundle.ownAtoms0]))
  obtain ⟨tyM, dM, hdM, hdnM⟩ := Cond.laysAt hfound hk hffM (a' (.lays cls Bundle.tN "detailMessage" "Ljava/lang/String;") (by simp [Bundle.ownAtoms0]))
  obtain ⟨tyB, dB, hdB, hdnB⟩ := Cond.laysAt hfound hk hffB (a' (.lays cls Bundle.tN "backtrace" "Ljava/lang/Object;") (by simp [Bundle.ownAtoms0]))
  have bC := Cond.laysApart hdB hdC hdnB hdnC (by rw [hnB, Y.causeName]; decide)
  have bS := Cond.laysApart hdB hdS hdnB hdnS (by rw [hnB, Y.stackName]; decide)
  have bP := Cond.laysApart hdB hdP hdnB hdnP (by rw [hnB, Y.suppName]; decide)
  have hskip : SkipFacts T e.platform s (fun u => u) u0 ((preparedCellV T.toThrowableT (freshCell P1.m.cls kX) a u0 sen).withEntry W.cur) :=
    ⟨{ ci198 := ci198, i198 := i198, fBack := fB }, ⟨hk198, hg198, ha198, hsB⟩, by
      have := fresh_default (c := P1.m.cls) tyB
      rw [htB] at this
      simpa [preparedCellV, Cell.setSlot, Cell.withEntry, Array.getElem?_setIfInBounds, bC, bS, bP, bC.symm, bS.symm, bP.symm, defaultValue] using this, fun _ _ => rfl⟩
  obtain ⟨tm, methC, cdC, kC, vm₁, hnC, -, -, -, -, -, -, -, hW₁, st1⟩ := Steps.initCold (tb := p.tables) (e := e) (below := below) (s := s) (U := W) X.here hexec X.warmed hpl hown (t := Bundle.init0 cls) rfl rfl (Bundle.fit_spec hcls).2
    (a' (.methodLink own ic (Bundle.init0 cls)) (by simp [Bundle.ownAtoms0])) (h (.instanceMethod (Bundle.init0 cls)) (by cases names <;> simp [Bundle.ownAtoms0, Bundle.chain0Atoms, Bundle.passAtoms])) (bytes := Bundle.five) (maxL := 1) (h (.code (Bundle.init0 cls) Bundle.five 1 none) (by cases names <;> simp [Bundle.ownAtoms0, Bundle.chain0Atoms, Bundle.passAtoms]))
    (f := g) hg (a := a) (rest := .ref a :: rest) hstack hd6
  cases Option.some.inj (hnC.symm.trans hP1m)
  have X₁ := X.noted hW₁
  obtain ⟨vm₂, X₂, st2⟩ := X₁.ctorPlainOffV hexec (g := { g with stack := .ref a :: rest }) hg hsize T L Z LZ (P1 :: Ps)
    (fun P hP => by rcases List.mem_cons.mp hP with rfl | hP; exact L1; exact hL P hP) ⟨hlink1, hlink⟩ (u0 := u0) (sen := sen) (self := a) (cell := freshCell P1.m.cls kX) (cellS := cellS)
    hcell (fun _ => by simp) (by simp) rfl rfl hsel0 hselF hcellS hneS hknownS (by rw [hkeep _ (hout' _)]; exact hu0) (by rw [hkeep _ (hout' _)]; exact hsen)
    (Takes.of_laid hk hord tyC (by rw [Y.causeType]; rfl)) (Takes.of_laid hk hord tyS (by rw [Y.stackType]; exact fits_refV_array _ u0)) (Takes.of_laid hk hord tyP (by rw [Y.suppType]; exact fits_refV_object _ sen)) Y.objLocals hskip htr [] hd6
    (by simp only [List.length_cons, hlen]; omega) (by simp only [List.length_cons, hlen]; exact hRlocals)
  have hlt : a < ((W.setVm vm₁).setVm vm₂).heap.size := (Array.getElem?_eq_some_iff.mp hcell).1
  refine ⟨(W.setVm vm₁).setVm vm₂, _, _, X₂, fun y hy => ?_, hlt, rfl, rfl, fun target hwalk => st1 _ (fun acts => ?_)⟩
  · simp only [List.mem_cons, List.not_mem_nil, or_false] at hy
    rcases hy with rfl | rfl | rfl | rfl <;> rfl
  · rw [doInvoke_state]
    exact st2 _ hwalk
end VXK
section VXK2
variable {p : Program} {l : Launch} {e : Env} {R : Room} {s : State} {m : MethodId} {args : Array Value} {below : List Frame} {meth : Method} {c : Code} {H : Heap} {locs : List Loc} {cells slots : Nat} {Q : State → Prop}
variable {ls : Array Slot} {rest : List Value} {D : va_G} {cl : List vw_C} {tys : List (ClassId × FieldType)} {ws : va_W}
/-- 'new E("text")' that isn't thrown at once: the object goes on the stack -/
theorem vx_makeS {cc : ByteArray} {pc : Nat} (hexec : p.tables.exec = Jvm.exec) (hb : c.code = cc) (hl : l.stackTraces = false) {own cls text : String} {names : List String} {ik is ic sa ci : Nat} {A : Nat → Prop} {T0 : u_T}
    (hown : s.vm.findClass own = some m.cls) (hcls : Bundle.fit cls = true) (hnames : ∀ n ∈ names, Bundle.fit n = true)
    (hk : (Cond.classLink own ik cls).before args s = true) (hini : (Cond.initialized cls).before args s = true) (hstr : vk_R own is text sa s) (hat : ∀ w ∈ vx_atS own ic cls names, w.before args s = true)
    (hgood : ∀ w ∈ Cond.classLink own ik cls :: Cond.initialized cls :: vx_atS own ic cls names, vx_ot w = true)
    (hU : vx_Zq Bundle.tN "UNASSIGNED_STACK" Bundle.steD A s s.heap) (hN : vx_Zq Bundle.tN "SUPPRESSED_SENTINEL" Bundle.listD A s s.heap) (hS : va_S A s.heap H locs) (hsize : ls.size = c.maxLocals)
    (d0 : decode cc pc = .ok (.new ik, 3)) (d3 : decode cc (pc + 3) = .ok (.dup, 1)) (d4 : decode cc (pc + 4) = .ok (.ldc is, 2)) (d6 : decode cc (pc + 6) = .ok (.invokespecial ic, 3))
    (hK : va_K D cl tys s) (hP : va_P D cl ws H) (hD : va_D A ws) (hA : ∀ q, s.heap.size ≤ q → A q) (hc : cl[ci]? = some (cls, T0, 0))
    (hRframes : names.length + 3 < R.frames) (hRlocals : (rest.map fun v => v.category).sum + (13 * (names.length + 1) + 43) ≤ R.locals) (hRcells : cells + 1 ≤ R.cells) (hRslots : slots + 6 ≤ R.slots)
    (kk : ∀ (q : Nat) (H1 : Heap), va_P D cl (ws ++ [(q, .inr (ci, []))]) H1 → va_D A (ws ++ [(q, .inr (ci, []))]) → va_S A s.heap H1 locs → W p l e R s m args below meth c H1 locs (cells + 1) (slots + 6) Q (F0 m (pc + 9) ls (.ref q :: rest))) :
    W p l e R s m args below meth c H locs cells slots Q (F0 m pc ls rest) := by
  intro T hT X
  subst hT
  have htr : e.platform.stackTraces = false := (show e.platform.stackTraces = l.stackTraces by rw [X.admits.platform]).trans hl
  have Y := vx_rebase X (R' := { frames := R.frames, locals := R.locals, cells := 1, slots := 6 }) (Nat.le_refl _) (Nat.le_refl _) hRcells hRslots
  obtain ⟨s', hA'⟩ : ∃ z, z = (T.setVm s.vm).setFrames (.invoking m args :: below) := ⟨_, rfl⟩
  rw [← hA'] at Y
  have hvm : s'.vm = s.vm := by rw [hA']; rfl
  have hhp : s'.heap = T.heap := by rw [hA']; rfl
  have hW0 : s.WarmedH s'.vm := by rw [hvm]; exact State.WarmedH.refl s
  have hat' : ∀ w ∈ vx_atS own ic cls names, w.before args s' = true := fun w hw => vx_ot_at hW0 hvm.symm (hgood w (List.mem_cons_of_mem _ (List.mem_cons_of_mem _ hw))) (hat w hw)
  have hk' : (Cond.classLink own ik cls).before args s' = true := vx_ot_at hW0 hvm.symm (hgood _ List.mem_cons_self) hk
  have hini' : (Cond.initialized cls).before args s' = true := vx_ot_at hW0 hvm.symm (hgood _ (List.mem_cons_of_mem _ List.mem_cons_self)) hini
  have hU' : vx_Zq Bundle.tN "UNASSIGNED_STACK" Bundle.steD A s' s'.heap := by rw [hhp]; exact vx_Zq.moved hW0.alike (hU.kept hS.2.1)
  have hN' : vx_Zq Bundle.tN "SUPPRESSED_SENTINEL" Bundle.listD A s' s'.heap := by rw [hhp]; exact vx_Zq.moved hW0.alike (hN.kept hS.2.1)
  have h : ∀ w ∈ Bundle.ownAtoms own ic cls names, w.before args s' = true := vx_own hat' (vx_isRefq hU'.1) (vx_isRefq hN'.1) hU'.2.word hN'.2.word
  have hown' : s'.vm.findClass own = some m.cls := by rw [hvm]; exact hown
  have hins : (Cond.instantiable cls 6).before args s' = true := h _ (by simp [Bundle.ownAtoms])
  obtain ⟨vm₁, cX, kX, hfX, hkX, -, -, X₁, st1⟩ := Y.newCold hexec (own := own) (C := cls) (index := ik) (n := 6) hown' hk' hins hini'
    (g := F0 m pc ls rest) rfl (by rw [hb]; exact d0) (Nat.le_refl _) (Nat.le_refl _)
  generalize hT1 : (T.setVm vm₁).pushCell { cls := cX, slots := kX.instanceTypes.map defaultValue, vm := .none } = T1 at X₁ st1
  have hcat : (Value.ref T.heap.size).category = 1 := rfl
  have hcellA : T1.heap[T.heap.size]? = some (freshCell cX kX) := by rw [← hT1]; exact State.heap_pushCell_size _ _
  have d3' : decode c.code (pc + 3) = .ok (.dup, 1) := by rw [hb]; exact d3
  have d4' : decode c.code (pc + 4) = .ok (.ldc is, 2) := by rw [hb]; exact d4
  have hstr' : vk_R own is text sa s' := vk_R.warm hW0 hstr
  obtain ⟨V, ce, L, Z, hL, hlt, hcl9, hvm9, st⟩ := vx_ctorMadeS X₁ hexec htr (own := own) (cls := cls) (names := names) (ic := ic) hown' hcls hnames h (fun x hx => nomatch hx) hfX hkX hcellA (by rw [hhp]; exact Nat.le_refl _) (msg := .ref sa) rfl
    (g := { method := m, pc := pc + 6, locals := ls, stack := .ref sa :: .ref T.heap.size :: .ref T.heap.size :: rest, locked := none }) rfl hsize (rest := rest) rfl
    (by rw [hb]; exact d6) hRframes (by simp only [List.map_cons, List.sum_cons, hcat]; omega)
  have Z0 := Stand.forget (locs := []) Z (fun y hy => by rw [hL y hy, hhp]; exact Nat.le_refl _)
  obtain ⟨f1, f2⟩ := vx_frame Z0.same
  rw [hhp] at f1 f2
  have hcid : ce.cls = D.1 ci := by
    rw [hcl9]
    have h1 := (hK.1 ci _ hc).2.1
    rw [hvm] at hfX
    exact Option.some.inj (hfX.symm.trans h1)
  have hh : (V.setCell T.heap.size ce).heap[T.heap.size]? = some ce := heapAt_setCell_self (s := V) ce hlt
  subst hA'
  have X5 := vx_back9 X Y Z0
  have X6 : Stand p l e R s m args below meth c (V.setCell T.heap.size ce) locs (cells + 1) (slots + 6) := { X5 with same := X5.same.mono (by omega) (by omega) }
  have hk9 : ∀ (k : Nat) (x : Nat × va_E), ws[k]? = some x → (V.setCell T.heap.size ce).heap[x.1]? = T.heap[x.1]? := fun k x hx => f2 x.1 ((hP k x hx).lt) (fun z hz => nomatch hz)
  obtain ⟨t, a1, b1⟩ := kk T.heap.size (V.setCell T.heap.size ce).heap ((hP.kept hk9).app (fun k x hx => by
      have hz : k < 1 := (List.getElem?_eq_some_iff.mp hx).1
      rw [show k = 0 by omega] at hx
      cases hx
      exact ⟨_, hc, ce, hh, hcid, hvm9, fun k hk => absurd hk (Nat.not_lt_zero k)⟩)) (hD.push hP rfl (hA _ hS.1)) ⟨Nat.le_trans hS.1 f1, fun q h1 h2 => (f2 q (Nat.lt_of_lt_of_le h1 hS.1) (fun z hz => nomatch hz)).trans (hS.2.1 q h1 h2), hS.2.2⟩ _ rfl X6
  refine ⟨t, st1 _ ?_, b1⟩
  show Steps p.tables e below (T1.setTop { method := m, pc := pc + 3, locals := ls, stack := .ref T.heap.size :: rest, locked := none }) _
  jvm_step X₁.here [X₁.here.top, hexec, d3', Value.category]
  exact X₁.ldcString hexec (own := own) (text := text) (index := is) (a := sa) hown' hstr'.1 hstr'.2
    (g := { method := m, pc := pc + 4, locals := ls, stack := .ref T.heap.size :: .ref T.heap.size :: rest, locked := none }) rfl d4' _ (st _ a1)
/-- 'new E()' that isn't thrown at once: the object goes on the stack -/
theorem vx_make0 {cc : ByteArray} {pc : Nat} (hexec : p.tables.exec = Jvm.exec) (hb : c.code = cc) (hl : l.stackTraces = false) {own cls : String} {names : List String} {ik ic ci : Nat} {A : Nat → Prop} {T0 : u_T}
    (hown : s.vm.findClass own = some m.cls) (hcls : Bundle.fit cls = true) (hnames : ∀ n ∈ names, Bundle.fit n = true)
    (hk : (Cond.classLink own ik cls).before args s = true) (hini : (Cond.initialized cls).before args s = true) (hat : ∀ w ∈ vx_at0 own ic cls names, w.before args s = true)
    (hgood : ∀ w ∈ Cond.classLink own ik cls :: Cond.initialized cls :: vx_at0 own ic cls names, vx_ot w = true)
    (hU : vx_Zq Bundle.tN "UNASSIGNED_STACK" Bundle.steD A s s.heap) (hN : vx_Zq Bundle.tN "SUPPRESSED_SENTINEL" Bundle.listD A s s.heap) (hS : va_S A s.heap H locs) (hsize : ls.size = c.maxLocals)
    (d0 : decode cc pc = .ok (.new ik, 3)) (d3 : decode cc (pc + 3) = .ok (.dup, 1)) (d4 : decode cc (pc + 4) = .ok (.invokespecial ic, 3))
    (hK : va_K D cl tys s) (hP : va_P D cl ws H) (hD : va_D A ws) (hA : ∀ q, s.heap.size ≤ q → A q) (hc : cl[ci]? = some (cls, T0, 0))
    (hRframes : names.length + 3 < R.frames) (hRlocals : (rest.map fun v => v.category).sum + (13 * (names.length + 1) + 42) ≤ R.locals) (hRcells : cells + 1 ≤ R.cells) (hRslots : slots + 6 ≤ R.slots)
    (kk : ∀ (q : Nat) (H1 : Heap), va_P D cl (ws ++ [(q, .inr (ci, []))]) H1 → va_D A (ws ++ [(q, .inr (ci, []))]) → va_S A s.heap H1 locs → W p l e R s m args below meth c H1 locs (cells + 1) (slots + 6) Q (F0 m (pc + 7) ls (.ref q :: rest))) :
    W p l e R s m args below meth c H locs cells slots Q (F0 m pc ls rest) := by
  intro T hT X
  subst hT
  have htr : e.platform.stackTraces = false := (show e.platform.stackTraces = l.stackTraces by rw [X.admits.platform]).trans hl
  have Y := vx_rebase X (R' := { frames := R.frames, locals := R.locals, cells := 1, slots := 6 }) (Nat.le_refl _) (Nat.le_refl _) hRcells hRslots
  obtain ⟨s', hA'⟩ : ∃ z, z = (T.setVm s.vm).setFrames (.invoking m args :: below) := ⟨_, rfl⟩
  rw [← hA'] at Y
  have hvm : s'.vm = s.vm := by rw [hA']; rfl
  have hhp : s'.heap = T.heap := by rw [hA']; rfl
  have hW0 : s.WarmedH s'.vm := by rw [hvm]; exact State.WarmedH.refl s
  have hat' : ∀ w ∈ vx_at0 own ic cls names, w.before args s' = true := fun w hw => vx_ot_at hW0 hvm.symm (hgood w (List.mem_cons_of_mem _ (List.mem_cons_of_mem _ hw))) (hat w hw)
  have hk' : (Cond.classLink own ik cls).before args s' = true := vx_ot_at hW0 hvm.symm (hgood _ List.mem_cons_self) hk
  have hini' : (Cond.initialized cls).before args s' = true := vx_ot_at hW0 hvm.symm (hgood _ (List.mem_cons_of_mem _ List.mem_cons_self)) hini
  have hU' : vx_Zq Bundle.tN "UNASSIGNED_STACK" Bundle.steD A s' s'.heap := by rw [hhp]; exact vx_Zq.moved hW0.alike (hU.kept hS.2.1)
  have hN' : vx_Zq Bundle.tN "SUPPRESSED_SENTINEL" Bundle.listD A s' s'.heap := by rw [hhp]; exact vx_Zq.moved hW0.alike (hN.kept hS.2.1)
  have h : ∀ w ∈ Bundle.ownAtoms0 own ic cls names, w.before args s' = true := vx_own hat' (vx_isRefq hU'.1) (vx_isRefq hN'.1) hU'.2.word hN'.2.word
  have hown' : s'.vm.findClass own = some m.cls := by rw [hvm]; exact hown
  have hins : (Cond.instantiable cls 6).before args s' = true := h _ (by simp [Bundle.ownAtoms0])
  obtain ⟨vm₁, cX, kX, hfX, hkX, -, -, X₁, st1⟩ := Y.newCold hexec (own := own) (C := cls) (index := ik) (n := 6) hown' hk' hins hini'
    (g := F0 m pc ls rest) rfl (by rw [hb]; exact d0) (Nat.le_refl _) (Nat.le_refl _)
  generalize hT1 : (T.setVm vm₁).pushCell { cls := cX, slots := kX.instanceTypes.map defaultValue, vm := .none } = T1 at X₁ st1
  have hcat : (Value.ref T.heap.size).category = 1 := rfl
  have hcellA : T1.heap[T.heap.size]? = some (freshCell cX kX) := by rw [← hT1]; exact State.heap_pushCell_size _ _
  have d3' : decode c.code (pc + 3) = .ok (.dup, 1) := by rw [hb]; exact d3
  obtain ⟨V, ce, L, Z, hL, hlt, hcl9, hvm9, st⟩ := vx_ctorMade0 X₁ hexec htr (own := own) (cls := cls) (names := names) (ic := ic) hown' hcls hnames h (fun x hx => nomatch hx) hfX hkX hcellA (by rw [hhp]; exact Nat.le_refl _)
    (g := { method := m, pc := pc + 4, locals := ls, stack := .ref T.heap.size :: .ref T.heap.size :: rest, locked := none }) rfl hsize (rest := rest) rfl
    (by rw [hb]; exact d4) hRframes (by simp only [List.map_cons, List.sum_cons, hcat]; omega)
  have Z0 := Stand.forget (locs := []) Z (fun y hy => by rw [hL y hy, hhp]; exact Nat.le_refl _)
  obtain ⟨f1, f2⟩ := vx_frame Z0.same
  rw [hhp] at f1 f2
  have hcid : ce.cls = D.1 ci := by
    rw [hcl9]
    have h1 := (hK.1 ci _ hc).2.1
    rw [hvm] at hfX
    exact Option.some.inj (hfX.symm.trans h1)
  have hh : (V.setCell T.heap.size ce).heap[T.heap.size]? = some ce := heapAt_setCell_self (s := V) ce hlt
  subst hA'
  have X5 := vx_back9 X Y Z0
  have X6 : Stand p l e R s m args below meth c (V.setCell T.heap.size ce) locs (cells + 1) (slots + 6) := { X5 with same := X5.same.mono (by omega) (by omega) }
  have hk9 : ∀ (k : Nat) (x : Nat × va_E), ws[k]? = some x → (V.setCell T.heap.size ce).heap[x.1]? = T.heap[x.1]? := fun k x hx => f2 x.1 ((hP k x hx).lt) (fun z hz => nomatch hz)
  obtain ⟨t, a1, b1⟩ := kk T.heap.size (V.setCell T.heap.size ce).heap ((hP.kept hk9).app (fun k x hx => by
      have hz : k < 1 := (List.getElem?_eq_some_iff.mp hx).1
      rw [show k = 0 by omega] at hx
      cases hx
      exact ⟨_, hc, ce, hh, hcid, hvm9, fun k hk => absurd hk (Nat.not_lt_zero k)⟩)) (hD.push hP rfl (hA _ hS.1)) ⟨Nat.le_trans hS.1 f1, fun q h1 h2 => (f2 q (Nat.lt_of_lt_of_le h1 hS.1) (fun z hz => nomatch hz)).trans (hS.2.1 q h1 h2), hS.2.2⟩ _ rfl X6
  refine ⟨t, st1 _ ?_, b1⟩
  show Steps p.tables e below (T1.setTop { method := m, pc := pc + 3, locals := ls, stack := .ref T.heap.size :: rest, locked := none }) _
  jvm_step X₁.here [X₁.here.top, hexec, d3', Value.category]
  exact st _ a1
/-- 'throw x' of an object that was made before -/
theorem vx_athrow {cc : ByteArray} {pc : Nat} (hexec : p.tables.exec = Jvm.exec) (hb : c.code = cc) {q : Addr} (hdg : decode cc pc = .ok (.athrow, 1)) (k : vx_W p l e R s m args below meth c H locs cells slots Q (F0 m pc ls rest) q) : W p l e R s m args below meth c H locs cells slots Q (F0 m pc ls (.ref q :: rest)) := by
  intro T hT X
  obtain ⟨t, st, hq⟩ := k T hT X
  refine ⟨t, ?_, hq⟩
  have hdg' : decode c.code pc = .ok (.athrow, 1) := by rw [hb]; exact hdg
  jvm_step X.here [X.here.top, hexec, hdg', athrow.wp_sem]
  exact st
end VXK2
/-! ===== END ===== -/
/-! ===== BEGIN a constructor that throws (launches without stack traces) ===== -/
section VXIA
variable {p : Program} {l : Launch} {e : Env} {R : Room} {s : State} {m : MethodId} {args : Array Value} {below : List Frame} {meth : Method} {c : Code} {T : State} {locs : List Loc} {cells slots : Nat}
theorem vx_callI (X : Stand p l e R s m args below meth c T locs cells slots) (hexec : p.tables.exec = Jvm.exec) {own : String} {index : Nat} {y : MethodName} {bytes : ByteArray} {maxL : Nat}
    (hown : s.vm.findClass own = some m.cls) (hy1 : y.name = "<init>") (hlink : (Cond.methodLink own index y).before args s = true) (hinst : (Cond.instanceMethod y).before args s = true)
    (hcode : (Cond.code y bytes maxL none).before args s = true) (hy : y.cls ≠ "java/lang/invoke/MethodHandle" ∧ y.cls ≠ "java/lang/invoke/VarHandle")
    {W9 : Nat} {Pre : Pt → Array Value → Prop} {Post : Pt → Array Value → Option Value → Pt → Prop} {PostX : Pt → Array Value → Addr → Pt → Prop} (hK : vx_Back l R p e below s args y 3 W9 Pre Post PostX)
    {g : JFrame} (hg : g.method = m) (hsize : g.locals.size = c.maxLocals) {a : Addr} {argsL rest : List Value} (hlen : ∀ sig, parseMethodDescriptor y.desc = some sig → argsL.length = sig.parameters.length)
    (hstack : g.stack = argsL.reverse ++ .ref a :: rest) (hW : 2 * g.monitorRoom + (rest.map fun v => v.category).sum ≤ W9) (hdg : decode c.code g.pc = .ok (.invokespecial index, 3))
    (hpre : ∀ vm₁, s.WarmedH vm₁ → Pre ⟨T.setVm vm₁, locs, cells, slots⟩ (Value.ref a :: argsL).toArray) :
    (∃ (v : Option Value) (vm₁ : Vm) (B : Pt), s.WarmedH vm₁ ∧ Stand p l e R s m args below meth c B.U B.locs B.cells B.slots ∧ Post ⟨T.setVm vm₁, locs, cells, slots⟩ (Value.ref a :: argsL).toArray v B ∧
      ∀ target, Steps p.tables e below (B.U.setTop { g with pc := g.pc + 3, stack := v.toList ++ rest }) target → Steps p.tables e below (T.setTop g) target) ∨
    (∃ (q : Addr) (vm₁ : Vm) (B : Pt), s.WarmedH vm₁ ∧ Stand p l e R s m args below meth c B.U B.locs B.cells B.slots ∧ PostX ⟨T.setVm vm₁, locs, cells, slots⟩ (Value.ref a :: argsL).toArray q B ∧
      Steps p.tables e below (T.setTop g) ((B.U.setTop { g with stack := rest }).pushFrame (.throwing q))) := by
  subst hg
  have hpl : e.platform.magicAccessors = ({} : Platform).magicAccessors := by rw [X.admits.platform]
  obtain ⟨mk, methM, cM, kP, vm₁, hnamed, hmethM, hcodeM, -, hlocalsM, -, hkP, -, hW₁, hstep₁⟩ := Steps.initColdArgs (e := e) X.here hexec X.warmed hpl hown hy1 hy hlink hinst hcode (f := g) rfl hlen hstack hdg
  have X₁ := X.noted hW₁
  rcases hK g.method meth c ⟨T.setVm vm₁, locs, cells, slots⟩ { g with stack := rest } (.invokespecial index) mk (Value.ref a :: argsL).toArray X₁ rfl hsize hdg hW (X₁.named hnamed) (hpre vm₁ X₁.warmed) with ⟨v, B, X', hpost, hsteps⟩ | ⟨q, B, X', hpost, hsteps⟩
  · exact Or.inl ⟨v, vm₁, B, X₁.warmed, X', hpost, fun target h => hstep₁ _ fun acts => by rw [doInvoke_state]; exact hsteps.trans h⟩
  · exact Or.inr ⟨q, vm₁, B, X₁.warmed, X', hpost, hstep₁ _ fun acts => by rw [doInvoke_state]; exact hsteps⟩
end VXIA
section VXIB
variable {p : Program} {l : Launch} {e : Env} {R : Room} {s : State} {m : MethodId} {args : Array Value} {below : List Frame} {meth : Method} {c : Code} {H : Heap} {locs : List Loc} {cells slots : Nat}
variable {y : MethodName} {bytes cc : ByteArray} {maxL nL mc ms n index : Nat} {ret : Option FieldType} {ws : List Cond} {rm : Room} {Pc : Array Value → State → Prop} {Qc : Array Value → State → Outcome → State → Prop} {XC : String → State → State → Prop} {free : Addr → Prop} {Ts : List Cond} {own C : String} {b : Addr} {As rest : List Value} {g : JFrame}
theorem vx_runI (S : CallFix p m c cc nL s args Ts own) (hM : vx_Met l y ws rm Pc Qc XC mc ms free) (cw : CallB R s args own index y bytes maxL none ws rm mc ms n ∧ y.name = "<init>" ∧ (Cond.instanceMethod y).before args s = true) (hp : PreS s H Pc (.ref b :: As))
    (hg : g.method = m) (hn : As.length = n) (hsize : g.locals.size = nL) (hstack : g.stack = As.reverse ++ .ref b :: rest) (hW : 2 * g.monitorRoom + (rest.map fun v => v.category).sum ≤ 8) (hdg : decode cc g.pc = .ok (.invokespecial index, 3)) (hf : cells + mc ≤ R.cells ∧ slots + ms ≤ R.slots) :
    vx_Run p l e R s m args below meth c H locs cells slots mc ms g rest (Qc (Value.ref b :: As).toArray) XC free := by
  have hK : vx_Back l R p e below s args y 3 8 (PreOf R mc ms Pc) (PostOf Qc mc ms free) (vx_Post XC mc ms free) := vx_callBack cw.1 hM hp.1
  obtain ⟨⟨-, -, -, -, -, -, hcode, -, hy, hlen, hl⟩, hy1, hin⟩ := cw
  obtain ⟨hx, hb, hml, ho, -⟩ := S
  have hPc := hp.2
  intro T hT X
  rcases vx_callI X hx (bytes := bytes) (maxL := maxL) ho hy1 hl hin hcode hy hK hg (hsize.trans hml.symm) (a := b) (argsL := As) (rest := rest) (fun sig h => hn.trans (hlen sig h)) hstack hW (by rw [hb]; exact hdg)
    (fun vm₁ hW₁ => ⟨hf.1, hf.2, hPc (T.setVm vm₁) hT hW₁⟩) with ⟨v, vm₁, ⟨U', l2, c2, s2⟩, hW₁, X', ⟨g', mk, t, L, e1, e2, hq, h1, hL, h2, h3⟩, st⟩ | ⟨q, vm₁, ⟨U', l2, c2, s2⟩, hW₁, X', ⟨g', mk, t, L, E, ce, e1, e2, hq, hce, hcv, hcl, h1, hL, h2, h3⟩, st⟩
  · dsimp only [Pt.U, Pt.locs, Pt.cells, Pt.slots] at X' e1 e2 h1 h2 h3 st
    subst h1; subst h2; subst h3
    exact Or.inl ⟨v, (T.setVm vm₁).calling g' mk (Value.ref b :: As).toArray, t, U', L, hT, X', hL, e1, e2, hq, st⟩
  · dsimp only [Pt.U, Pt.locs, Pt.cells, Pt.slots] at X' e1 e2 h1 h2 h3 st hcl
    subst h1; subst h2; subst h3
    exact Or.inr ⟨q, (T.setVm vm₁).calling g' mk (Value.ref b :: As).toArray, t, U', L, E, ce, hT, X', hL, e1, e2, hq, hce, hcv, vx_cls hW₁ hcl, st⟩
end VXIB
/-! ===== END ===== -/
/-! ===== BEGIN a private constructor of a nest mate that throws ===== -/
section VXIC
variable {p : Program} {l : Launch} {e : Env} {R : Room} {s : State} {m : MethodId} {args : Array Value} {below : List Frame} {meth : Method} {c : Code} {T : State} {locs : List Loc} {cells slots : Nat}
theorem vx_callIN (X : Stand p l e R s m args below meth c T locs cells slots) (hexec : p.tables.exec = Jvm.exec) {own : String} {index : Nat} {host : String} {y : MethodName} {bytes : ByteArray} {maxL : Nat}
    (hown : s.vm.findClass own = some m.cls) (hy1 : y.name = "<init>") (hlink : (Cond.methodLinkNest own index y host).before args s = true) (hinst : (Cond.instanceMethod y).before args s = true)
    (hcode : (Cond.code y bytes maxL none).before args s = true) (hy : y.cls ≠ "java/lang/invoke/MethodHandle" ∧ y.cls ≠ "java/lang/invoke/VarHandle")
    {W9 : Nat} {Pre : Pt → Array Value → Prop} {Post : Pt → Array Value → Option Value → Pt → Prop} {PostX : Pt → Array Value → Addr → Pt → Prop} (hK : vx_Back l R p e below s args y 3 W9 Pre Post PostX)
    {g : JFrame} (hg : g.method = m) (hsize : g.locals.size = c.maxLocals) {a : Addr} {argsL rest : List Value} (hlen : ∀ sig, parseMethodDescriptor y.desc = some sig → argsL.length = sig.parameters.length)
    (hstack : g.stack = argsL.reverse ++ .ref a :: rest) (hW : 2 * g.monitorRoom + (rest.map fun v => v.category).sum ≤ W9) (hdg : decode c.code g.pc = .ok (.invokespecial index, 3))
    (hpre : ∀ vm₁, s.WarmedH vm₁ → Pre ⟨T.setVm vm₁, locs, cells, slots⟩ (Value.ref a :: argsL).toArray) :
    (∃ (v : Option Value) (vm₁ : Vm) (B : Pt), s.WarmedH vm₁ ∧ Stand p l e R s m args below meth c B.U B.locs B.cells B.slots ∧ Post ⟨T.setVm vm₁, locs, cells, slots⟩ (Value.ref a :: argsL).toArray v B ∧
      ∀ target, Steps p.tables e below (B.U.setTop { g with pc := g.pc + 3, stack := v.toList ++ rest }) target → Steps p.tables e below (T.setTop g) target) ∨
    (∃ (q : Addr) (vm₁ : Vm) (B : Pt), s.WarmedH vm₁ ∧ Stand p l e R s m args below meth c B.U B.locs B.cells B.slots ∧ PostX ⟨T.setVm vm₁, locs, cells, slots⟩ (Value.ref a :: argsL).toArray q B ∧
      Steps p.tables e below (T.setTop g) ((B.U.setTop { g with stack := rest }).pushFrame (.throwing q))) := by
  subst hg
  have hpl : e.platform.magicAccessors = ({} : Platform).magicAccessors := by rw [X.admits.platform]
  obtain ⟨mk, methM, cM, kP, vm₁, hnamed, hmethM, hcodeM, -, hlocalsM, -, hkP, -, hW₁, hstep₁⟩ := Steps.initColdArgsNest (e := e) X.here hexec X.warmed hpl hown hy1 hy hlink hinst hcode (f := g) rfl hlen hstack hdg
  have X₁ := X.noted hW₁
  rcases hK g.method meth c ⟨T.setVm vm₁, locs, cells, slots⟩ { g with stack := rest } (.invokespecial index) mk (Value.ref a :: argsL).toArray X₁ rfl hsize hdg hW (X₁.named hnamed) (hpre vm₁ X₁.warmed) with ⟨v, B, X', hpost, hsteps⟩ | ⟨q, B, X', hpost, hsteps⟩
  · exact Or.inl ⟨v, vm₁, B, X₁.warmed, X', hpost, fun target h => hstep₁ _ fun acts => by rw [doInvoke_state]; exact hsteps.trans h⟩
  · exact Or.inr ⟨q, vm₁, B, X₁.warmed, X', hpost, hstep₁ _ fun acts => by rw [doInvoke_state]; exact hsteps⟩
end VXIC
section VXID
variable {p : Program} {l : Launch} {e : Env} {R : Room} {s : State} {m : MethodId} {args : Array Value} {below : List Frame} {meth : Method} {c : Code} {H : Heap} {locs : List Loc} {cells slots : Nat}
theorem vx_runIN {y : MethodName} {bytes cc : ByteArray} {maxL nL mc ms n index : Nat} {ws : List Cond} {rm : Room} {Pc : Array Value → State → Prop} {Qc : Array Value → State → Outcome → State → Prop} {XC : String → State → State → Prop} {free : Addr → Prop} {Ts : List Cond} {own host : String} {b : Addr} {As rest : List Value} {g : JFrame}
    (S : CallFix p m c cc nL s args Ts own) (hM : vx_Met l y ws rm Pc Qc XC mc ms free) (cw : va_CN R s args own index y host bytes maxL none ws rm mc ms n ∧ y.name = "<init>" ∧ (Cond.instanceMethod y).before args s = true) (hp : PreS s H Pc (.ref b :: As))
    (hg : g.method = m) (hn : As.length = n) (hsize : g.locals.size = nL) (hstack : g.stack = As.reverse ++ .ref b :: rest) (hW : 2 * g.monitorRoom + (rest.map fun v => v.category).sum ≤ 8) (hdg : decode cc g.pc = .ok (.invokespecial index, 3)) (hf : cells + mc ≤ R.cells ∧ slots + ms ≤ R.slots) :
    vx_Run p l e R s m args below meth c H locs cells slots mc ms g rest (Qc (Value.ref b :: As).toArray) XC free := by
  obtain ⟨⟨⟨hrc, hrs, hfr, hlo, hws, hcw⟩, hcode, hini, hy, hlen, hl⟩, hx1, hx2⟩ := cw
  have hK : vx_Back l R p e below s args y 3 8 (PreOf R mc ms Pc) (PostOf Qc mc ms free) (vx_Post XC mc ms free) := vx_back (bytes := bytes) (maxL := maxL) (ret := none) hM hp.1 hrc hrs hfr hlo hws hcw (fun a' U hW => word_at hW (Or.inl (by first | rfl | simp [Cond.onTables, Cond.keeps, Cond.steady])) hini)
  obtain ⟨hx, hb, hml, ho, -⟩ := S
  have hPc := hp.2
  intro T hT X
  rcases vx_callIN X hx (bytes := bytes) (maxL := maxL) ho hx1 hl hx2 hcode hy hK hg (hsize.trans hml.symm) (a := b) (argsL := As) (rest := rest) (fun sig h => hn.trans (hlen sig h)) hstack hW (by rw [hb]; exact hdg)
    (fun vm₁ hW₁ => ⟨hf.1, hf.2, hPc (T.setVm vm₁) hT hW₁⟩) with ⟨v, vm₁, ⟨U', l2, c2, s2⟩, hW₁, X', ⟨g', mk, t, L, e1, e2, hq, h1, hL, h2, h3⟩, st⟩ | ⟨q, vm₁, ⟨U', l2, c2, s2⟩, hW₁, X', ⟨g', mk, t, L, E, ce, e1, e2, hq, hce, hcv, hcl, h1, hL, h2, h3⟩, st⟩
  · dsimp only [Pt.U, Pt.locs, Pt.cells, Pt.slots] at X' e1 e2 h1 h2 h3 st
    subst h1; subst h2; subst h3
    exact Or.inl ⟨v, (T.setVm vm₁).calling g' mk (Value.ref b :: As).toArray, t, U', L, hT, X', hL, e1, e2, hq, st⟩
  · dsimp only [Pt.U, Pt.locs, Pt.cells, Pt.slots] at X' e1 e2 h1 h2 h3 st hcl
    subst h1; subst h2; subst h3
    exact Or.inr ⟨q, (T.setVm vm₁).calling g' mk (Value.ref b :: As).toArray, t, U', L, E, ce, hT, X', hL, e1, e2, hq, hce, hcv, vx_cls hW₁ hcl, st⟩
end VXID
/-! ===== END ===== -/
/-! ===== BEGIN a method of a class above, found by the receiver, that may throw (follows va_callVU, va_runU of this kit) ===== -/
section
variable {p : Program} {l : Launch} {e : Env} {R : Room} {s : State} {m : MethodId} {args : Array Value} {below : List Frame} {meth : Method} {c : Code} {H : Heap} {locs : List Loc} {cells slots : Nat}
theorem vx_callVU {T : State} {locs : List Loc} {cells slots : Nat} (X : Stand p l e R s m args below meth c T locs cells slots) (hexec : p.tables.exec = Jvm.exec) {own C owner : String} {index : Nat} {x y : MethodName} {bytes : ByteArray} {maxL : Nat} {ret : Option FieldType}
    (hown : s.vm.findClass own = some m.cls) (hlink : (Cond.methodLink own index x).before args s = true) (hsame : (Cond.sameMethod x.cls owner x.name x.desc).before args s = true)
    (hd0 : va_Decl s ⟨owner, x.name, x.desc⟩) (howner : owner ≠ "java/lang/invoke/MethodHandle" ∧ owner ≠ "java/lang/invoke/VarHandle")
    (hsel : (Cond.selects C x y).before args s = true) (hinst : (Cond.instanceMethod y).before args s = true) (hcode : (Cond.code y bytes maxL ret).before args s = true)
    {W : Nat} {Pre : Pt → Array Value → Prop} {Post : Pt → Array Value → Option Value → Pt → Prop} {PostX : Pt → Array Value → Addr → Pt → Prop} (hK : vx_Back l R p e below s args y 3 W Pre Post PostX)
    {b : Addr} {cellB : Cell} (hcell : T.heap[b]? = some cellB) (hobj : cellB.vm.isStatics = false) (hcls : s.vm.findClass C = some cellB.cls)
    {g : JFrame} (hg : g.method = m) (hsize : g.locals.size = c.maxLocals) {argsL rest : List Value} (hlen : ∀ sig, parseMethodDescriptor x.desc = some sig → argsL.length = sig.parameters.length)
    (hstack : g.stack = argsL.reverse ++ .ref b :: rest) (hW : 2 * g.monitorRoom + (rest.map fun v => v.category).sum ≤ W) (hdg : decode c.code g.pc = .ok (.invokevirtual index, 3))
    (hpre : ∀ vm₁, s.WarmedH vm₁ → Pre ⟨T.setVm vm₁, locs, cells, slots⟩ (Value.ref b :: argsL).toArray) :
    (∃ (v : Option Value) (vm₁ : Vm) (B : Pt), s.WarmedH vm₁ ∧ Stand p l e R s m args below meth c B.U B.locs B.cells B.slots ∧ Post ⟨T.setVm vm₁, locs, cells, slots⟩ (Value.ref b :: argsL).toArray v B ∧
      ∀ target, Steps p.tables e below (B.U.setTop { g with pc := g.pc + 3, stack := v.toList ++ rest }) target → Steps p.tables e below (T.setTop g) target) ∨
    (∃ (q : Addr) (vm₁ : Vm) (B : Pt), s.WarmedH vm₁ ∧ Stand p l e R s m args below meth c B.U B.locs B.cells B.slots ∧ PostX ⟨T.setVm vm₁, locs, cells, slots⟩ (Value.ref b :: argsL).toArray q B ∧
      Steps p.tables e below (T.setTop g) ((B.U.setTop { g with stack := rest }).pushFrame (.throwing q))) := by
  obtain ⟨r0, r, hn, hrm, hstR, hsigR⟩ := hd0
  obtain ⟨cn, ck, r1, hcn, hck, hni, hf, hn1⟩ := Cond.sameMethod_found hsame
  cases hn.symm.trans hn1
  obtain ⟨mk, methM, hnamed, hmethM, -, habM⟩ := Cond.instanceMethod_spec hinst
  obtain ⟨c2, r2, m2, q1, q2, q3, q4, kP, hkP, hkPi⟩ := Cond.selects_spec hsel
  cases hcls.symm.trans q1
  cases hf.symm.trans q2
  cases hnamed.symm.trans q3
  have hselP : selectMethod e.platform s.vm cellB.cls r0 = .method mk := by rw [Launch.admits_selectMethod X.admits]; exact q4
  obtain ⟨vm₁, X₁, hstep₁⟩ := X.invokevirtualUp hexec hown hlink hsame howner hn hrm hstR (a := b) (cell := cellB) hcell
    (fun z h => by rw [h] at hobj; cases hobj) hselP hmethM habM hkP hkPi (g := g) hg (argsL := argsL) (rest := rest) (hlen _ hsigR) hstack hdg
  rcases hK m meth c ⟨T.setVm vm₁, locs, cells, slots⟩ { g with stack := rest } (.invokevirtual index) mk (Value.ref b :: argsL).toArray X₁ hg hsize hdg hW (X₁.named hnamed) (hpre vm₁ X₁.warmed) with ⟨v, B, X', hpost, hsteps⟩ | ⟨q, B, X', hpost, hsteps⟩
  · exact Or.inl ⟨v, vm₁, B, X₁.warmed, X', hpost, fun target h => hstep₁ _ fun acts => by rw [doInvoke_state]; exact hsteps.trans h⟩
  · exact Or.inr ⟨q, vm₁, B, X₁.warmed, X', hpost, hstep₁ _ fun acts => by rw [doInvoke_state]; exact hsteps⟩
theorem vx_runU {x y : MethodName} {bytes cc : ByteArray} {maxL nL mc ms n index : Nat} {ret : Option FieldType} {ws : List Cond} {rm : Room} {Pc : Array Value → State → Prop} {Qc : Array Value → State → Outcome → State → Prop} {XC : String → State → State → Prop} {free : Addr → Prop} {Ts : List Cond} {own C owner : String} {b : Addr} {As rest : List Value} {g : JFrame}
    (S : CallFix p m c cc nL s args Ts own) (hM : vx_Met l y ws rm Pc Qc XC mc ms free) (cw : va_CU R s args own C owner index x y bytes maxL ret ws rm mc ms n) (hp : PreV s H C b Pc As)
    (hg : g.method = m) (hn : As.length = n) (hsize : g.locals.size = nL) (hstack : g.stack = As.reverse ++ .ref b :: rest) (hW : 2 * g.monitorRoom + (rest.map fun v => v.category).sum ≤ 8) (hdg : decode cc g.pc = .ok (.invokevirtual index, 3)) (hf : cells + mc ≤ R.cells ∧ slots + ms ≤ R.slots) :
    vx_Run p l e R s m args below meth c H locs cells slots mc ms g rest (Qc (Value.ref b :: As).toArray) XC free := by
  obtain ⟨hrc, hrs, hfr, hlo, hws, hcw⟩ := cw.back
  have hini := cw.init
  have hK : vx_Back l R p e below s args y 3 8 (PreOf R mc ms Pc) (PostOf Qc mc ms free) (vx_Post XC mc ms free) := vx_back (bytes := bytes) (maxL := maxL) (ret := ret) hM hp.1 hrc hrs hfr hlo hws hcw (fun a' U hW => word_at hW (Or.inl (by first | rfl | simp [Cond.onTables, Cond.keeps, Cond.steady])) hini)
  obtain ⟨hx, hb, hml, ho, -⟩ := S
  obtain ⟨-, ⟨cellB, hcB, hoB, hclB⟩, hPc⟩ := hp
  intro T hT X
  rcases vx_callVU X hx (C := C) (owner := owner) (bytes := bytes) (maxL := maxL) (ret := ret) ho cw.link cw.same cw.decl cw.notMH cw.sel cw.inst cw.code hK (by rw [hT]; exact hcB) hoB hclB hg (hsize.trans hml.symm) (argsL := As) (rest := rest) (fun sig h => hn.trans (cw.len sig h)) hstack hW (by rw [hb]; exact hdg)
    (fun vm₁ hW₁ => ⟨hf.1, hf.2, hPc (T.setVm vm₁) hT hW₁⟩) with ⟨v, vm₁, ⟨U', l2, c2, s2⟩, hW₁, X', ⟨g', mk, t, L, e1, e2, hq, h1, hL, h2, h3⟩, st⟩ | ⟨q, vm₁, ⟨U', l2, c2, s2⟩, hW₁, X', ⟨g', mk, t, L, E, ce, e1, e2, hq, hce, hcv, hcl, h1, hL, h2, h3⟩, st⟩
  · dsimp only [Pt.U, Pt.locs, Pt.cells, Pt.slots] at X' e1 e2 h1 h2 h3 st
    subst h1; subst h2; subst h3
    exact Or.inl ⟨v, (T.setVm vm₁).calling g' mk (Value.ref b :: As).toArray, t, U', L, hT, X', hL, e1, e2, hq, st⟩
  · dsimp only [Pt.U, Pt.locs, Pt.cells, Pt.slots] at X' e1 e2 h1 h2 h3 st hcl
    subst h1; subst h2; subst h3
    exact Or.inr ⟨q, (T.setVm vm₁).calling g' mk (Value.ref b :: As).toArray, t, U', L, E, ce, hT, X', hL, e1, e2, hq, hce, hcv, vx_cls hW₁ hcl, st⟩
end
/-! ===== END ===== -/
/-! ===== BEGIN super.m(..) that may throw (follows va_callSU, va_runSU) ===== -/
section
variable {p : Program} {l : Launch} {e : Env} {R : Room} {s : State} {m : MethodId} {args : Array Value} {below : List Frame} {meth : Method} {c : Code} {H : Heap} {locs : List Loc} {cells slots : Nat}
theorem vx_callSU {T : State} {locs : List Loc} {cells slots : Nat} (X : Stand p l e R s m args below meth c T locs cells slots) (hexec : p.tables.exec = Jvm.exec) {own : String} {index : Nat} {y : MethodName} {bytes : ByteArray} {maxL : Nat} {ret : Option FieldType}
    (hown : s.vm.findClass own = some m.cls) (hlink : (Cond.methodLink own index y).before args s = true) (hsame : (Cond.sameMethod y.cls y.cls y.name y.desc).before args s = true) (hsup : (Cond.superclass own y.cls).before args s = true)
    (hinst : (Cond.instanceMethod y).before args s = true) (hcode : (Cond.code y bytes maxL ret).before args s = true) (hno : y.name ≠ "<init>")
    {W : Nat} {Pre : Pt → Array Value → Prop} {Post : Pt → Array Value → Option Value → Pt → Prop} {PostX : Pt → Array Value → Addr → Pt → Prop} (hK : vx_Back l R p e below s args y 3 W Pre Post PostX)
    {b : Addr} {cellB : Cell} {kB : Class} (hcell : T.heap[b]? = some cellB) (hobj : cellB.vm.isStatics = false) (hkB : s.vm.classes[cellB.cls]? = some kB)
    {g : JFrame} (hg : g.method = m) (hsize : g.locals.size = c.maxLocals) {argsL rest : List Value} (hlen : ∀ sig, parseMethodDescriptor y.desc = some sig → argsL.length = sig.parameters.length)
    (hstack : g.stack = argsL.reverse ++ .ref b :: rest) (hW : 2 * g.monitorRoom + (rest.map fun v => v.category).sum ≤ W) (hdg : decode c.code g.pc = .ok (.invokespecial index, 3))
    (hpre : ∀ vm₁, s.WarmedH vm₁ → Pre ⟨T.setVm vm₁, locs, cells, slots⟩ (Value.ref b :: argsL).toArray) :
    (∃ (v : Option Value) (vm₁ : Vm) (B : Pt), s.WarmedH vm₁ ∧ Stand p l e R s m args below meth c B.U B.locs B.cells B.slots ∧ Post ⟨T.setVm vm₁, locs, cells, slots⟩ (Value.ref b :: argsL).toArray v B ∧
      ∀ target, Steps p.tables e below (B.U.setTop { g with pc := g.pc + 3, stack := v.toList ++ rest }) target → Steps p.tables e below (T.setTop g) target) ∨
    (∃ (q : Addr) (vm₁ : Vm) (B : Pt), s.WarmedH vm₁ ∧ Stand p l e R s m args below meth c B.U B.locs B.cells B.slots ∧ PostX ⟨T.setVm vm₁, locs, cells, slots⟩ (Value.ref b :: argsL).toArray q B ∧
      Steps p.tables e below (T.setTop g) ((B.U.setTop { g with stack := rest }).pushFrame (.throwing q))) := by
  obtain ⟨mk, methM, hnamed, hmethM, hstM, habM⟩ := Cond.instanceMethod_spec hinst
  obtain ⟨methM', cM, hmethM', -, -, -, -, -, -, hsigM⟩ := Cond.code_spec hnamed hcode
  cases hmethM.symm.trans hmethM'
  obtain ⟨ps, dk, kp, hps, hdk, hkp, hsuper, -, -, hnid⟩ := Cond.superclass_spec hown hsup
  have hn : s.methodNamed? ⟨y.cls, y.name, y.desc⟩ = some mk := hnamed
  have hpm : ps = mk.cls := Option.some.inj (hps.symm.trans (findClass_of_methodNamed hnamed))
  have hsub : s.vm.isSubclass ps mk.cls = true := by rw [hpm]; simp [Vm.isSubclass, Vm.isSubclassAux]
  obtain ⟨vm₁, X₁, hstep₁⟩ := X.invokespecialUp hexec hown hlink hsame hn hmethM hstM habM hno hdk hnid hps hsuper hsub (a := b) (cell := cellB) hcell
    (fun z h => by rw [h] at hobj; cases hobj) hkB (g := g) hg (argsL := argsL) (rest := rest) (hlen _ hsigM) hstack hdg
  rcases hK m meth c ⟨T.setVm vm₁, locs, cells, slots⟩ { g with stack := rest } (.invokespecial index) mk (Value.ref b :: argsL).toArray X₁ hg hsize hdg hW (X₁.named hnamed) (hpre vm₁ X₁.warmed) with ⟨v, B, X', hpost, hsteps⟩ | ⟨q, B, X', hpost, hsteps⟩
  · exact Or.inl ⟨v, vm₁, B, X₁.warmed, X', hpost, fun target h => hstep₁ _ (by rw [doInvoke_state]; exact hsteps.trans h)⟩
  · exact Or.inr ⟨q, vm₁, B, X₁.warmed, X', hpost, hstep₁ _ (by rw [doInvoke_state]; exact hsteps)⟩
theorem vx_runSU {y : MethodName} {bytes cc : ByteArray} {maxL nL mc ms n index : Nat} {ret : Option FieldType} {ws : List Cond} {rm : Room} {Pc : Array Value → State → Prop} {Qc : Array Value → State → Outcome → State → Prop} {XC : String → State → State → Prop} {free : Addr → Prop} {Ts : List Cond} {own C : String} {cC : ClassId} {b : Addr} {As rest : List Value} {g : JFrame}
    (hat : ClassAt s C cC) (S : CallFix p m c cc nL s args Ts own) (hM : vx_Met l y ws rm Pc Qc XC mc ms free) (cw : va_CS R s args own index y bytes maxL ret ws rm mc ms n) (hp : PreV s H C b Pc As)
    (hg : g.method = m) (hn : As.length = n) (hsize : g.locals.size = nL) (hstack : g.stack = As.reverse ++ .ref b :: rest) (hW : 2 * g.monitorRoom + (rest.map fun v => v.category).sum ≤ 8) (hdg : decode cc g.pc = .ok (.invokespecial index, 3)) (hf : cells + mc ≤ R.cells ∧ slots + ms ≤ R.slots) :
    vx_Run p l e R s m args below meth c H locs cells slots mc ms g rest (Qc (Value.ref b :: As).toArray) XC free := by
  obtain ⟨⟨hrc, hrs, hfr, hlo, hws, hcw⟩, hl1, hl2, hl3, hl4, hini, hcode, hno, hlen⟩ := cw
  have hK : vx_Back l R p e below s args y 3 8 (PreOf R mc ms Pc) (PostOf Qc mc ms free) (vx_Post XC mc ms free) := vx_back (bytes := bytes) (maxL := maxL) (ret := ret) hM hp.1 hrc hrs hfr hlo hws hcw (fun a' U hW => word_at hW (Or.inl (by first | rfl | simp [Cond.onTables, Cond.keeps, Cond.steady])) hini)
  obtain ⟨hx, hb, hml, ho, -⟩ := S
  obtain ⟨-, ⟨cellB, hcB, hoB, hclB⟩, hPc⟩ := hp
  obtain ⟨hfc, kB, hkB, -⟩ := hat
  cases hfc.symm.trans hclB
  intro T hT X
  rcases vx_callSU X hx (bytes := bytes) (maxL := maxL) (ret := ret) ho hl1 hl2 hl3 hl4 hcode hno hK (by rw [hT]; exact hcB) hoB hkB hg (hsize.trans hml.symm) (argsL := As) (rest := rest) (fun sig h => hn.trans (hlen sig h)) hstack hW (by rw [hb]; exact hdg)
    (fun vm₁ hW₁ => ⟨hf.1, hf.2, hPc (T.setVm vm₁) hT hW₁⟩) with ⟨v, vm₁, ⟨U', l2, c2, s2⟩, hW₁, X', ⟨g', mk, t, L, e1, e2, hq, h1, hL, h2, h3⟩, st⟩ | ⟨q, vm₁, ⟨U', l2, c2, s2⟩, hW₁, X', ⟨g', mk, t, L, E, ce, e1, e2, hq, hce, hcv, hcl, h1, hL, h2, h3⟩, st⟩
  · dsimp only [Pt.U, Pt.locs, Pt.cells, Pt.slots] at X' e1 e2 h1 h2 h3 st
    subst h1; subst h2; subst h3
    exact Or.inl ⟨v, (T.setVm vm₁).calling g' mk (Value.ref b :: As).toArray, t, U', L, hT, X', hL, e1, e2, hq, st⟩
  · dsimp only [Pt.U, Pt.locs, Pt.cells, Pt.slots] at X' e1 e2 h1 h2 h3 st hcl
    subst h1; subst h2; subst h3
    exact Or.inr ⟨q, (T.setVm vm₁).calling g' mk (Value.ref b :: As).toArray, t, U', L, E, ce, hT, X', hL, e1, e2, hq, hce, hcv, vx_cls hW₁ hcl, st⟩
end
/-! ===== END ===== -/
/-! ===== BEGIN a private method of a nest mate that may throw (follows va_callVN, va_callSN, va_runVN, va_runSN) ===== -/
section
variable {p : Program} {l : Launch} {e : Env} {R : Room} {s : State} {m : MethodId} {args : Array Value} {below : List Frame} {meth : Method} {c : Code} {H : Heap} {locs : List Loc} {cells slots : Nat}
variable {T : State}
theorem vx_callVN (X : Stand p l e R s m args below meth c T locs cells slots) (hexec : p.tables.exec = Jvm.exec) {own C : String} {index : Nat} {host : String} {y : MethodName} {bytes : ByteArray} {maxL : Nat} {ret : Option FieldType}
    (hown : s.vm.findClass own = some m.cls) (hlink : (Cond.methodLinkNest own index y host).before args s = true) (hinst : (Cond.instanceMethod y).before args s = true) (hsel : (Cond.selects C y y).before args s = true)
    (hcode : (Cond.code y bytes maxL ret).before args s = true) (hy : y.cls ≠ "java/lang/invoke/MethodHandle" ∧ y.cls ≠ "java/lang/invoke/VarHandle")
    {W : Nat} {Pre : Pt → Array Value → Prop} {Post : Pt → Array Value → Option Value → Pt → Prop} {PostX : Pt → Array Value → Addr → Pt → Prop} (hK : vx_Back l R p e below s args y 3 W Pre Post PostX)
    {b : Addr} {cellB : Cell} (hcell : T.heap[b]? = some cellB) (hobj : cellB.vm.isStatics = false) (hcls : s.vm.findClass C = some cellB.cls)
    {g : JFrame} (hg : g.method = m) (hsize : g.locals.size = c.maxLocals) {argsL rest : List Value} (hlen : ∀ sig, parseMethodDescriptor y.desc = some sig → argsL.length = sig.parameters.length)
    (hstack : g.stack = argsL.reverse ++ .ref b :: rest) (hW : 2 * g.monitorRoom + (rest.map fun v => v.category).sum ≤ W) (hdg : decode c.code g.pc = .ok (.invokevirtual index, 3))
    (hpre : ∀ vm₁, s.WarmedH vm₁ → Pre ⟨T.setVm vm₁, locs, cells, slots⟩ (Value.ref b :: argsL).toArray) :
    (∃ (v : Option Value) (vm₁ : Vm) (B : Pt), s.WarmedH vm₁ ∧ Stand p l e R s m args below meth c B.U B.locs B.cells B.slots ∧ Post ⟨T.setVm vm₁, locs, cells, slots⟩ (Value.ref b :: argsL).toArray v B ∧
      ∀ target, Steps p.tables e below (B.U.setTop { g with pc := g.pc + 3, stack := v.toList ++ rest }) target → Steps p.tables e below (T.setTop g) target) ∨
    (∃ (q : Addr) (vm₁ : Vm) (B : Pt), s.WarmedH vm₁ ∧ Stand p l e R s m args below meth c B.U B.locs B.cells B.slots ∧ PostX ⟨T.setVm vm₁, locs, cells, slots⟩ (Value.ref b :: argsL).toArray q B ∧
      Steps p.tables e below (T.setTop g) ((B.U.setTop { g with stack := rest }).pushFrame (.throwing q))) := by
  obtain ⟨mk, methM, hnamed, hmethM, hstM, habM⟩ := Cond.instanceMethod_spec hinst
  obtain ⟨methM', cM, hmethM', -, -, -, -, -, -, hsigM⟩ := Cond.code_spec hnamed hcode
  cases hmethM.symm.trans hmethM'
  obtain ⟨c2, r2, m2, q1, q2, q3, q4, kP, hkP, hkPi⟩ := Cond.selects_spec hsel
  cases hcls.symm.trans q1
  cases (State.methodFound?_of_named hnamed hy).symm.trans q2
  cases hnamed.symm.trans q3
  have hselP : selectMethod e.platform s.vm cellB.cls mk = .method mk := by rw [Launch.admits_selectMethod X.admits]; exact q4
  obtain ⟨vm₁, X₁, hstep₁⟩ := X.invokevirtualNest hexec hown hlink hnamed hmethM hstM hkP hkPi hy (a := b) (cell := cellB) hcell
    (fun z h => by rw [h] at hobj; cases hobj) hselP hmethM habM hkP hkPi (g := g) hg (argsL := argsL) (rest := rest) (hlen _ hsigM) hstack hdg
  rcases hK m meth c ⟨T.setVm vm₁, locs, cells, slots⟩ { g with stack := rest } (.invokevirtual index) mk (Value.ref b :: argsL).toArray X₁ hg hsize hdg hW (X₁.named hnamed) (hpre vm₁ X₁.warmed) with ⟨v, B, X', hpost, hsteps⟩ | ⟨q, B, X', hpost, hsteps⟩
  · exact Or.inl ⟨v, vm₁, B, X₁.warmed, X', hpost, fun target h => hstep₁ _ fun acts => by rw [doInvoke_state]; exact hsteps.trans h⟩
  · exact Or.inr ⟨q, vm₁, B, X₁.warmed, X', hpost, hstep₁ _ fun acts => by rw [doInvoke_state]; exact hsteps⟩
theorem vx_callSN (X : Stand p l e R s m args below meth c T locs cells slots) (hexec : p.tables.exec = Jvm.exec) {own : String} {index : Nat} {host : String} {y : MethodName} {bytes : ByteArray} {maxL : Nat} {ret : Option FieldType}
    (hown : s.vm.findClass own = some m.cls) (hlink : (Cond.methodLinkNest own index y host).before args s = true) (hstat : (Cond.static y).before args s = true) (hinit : (Cond.initialized y.cls).before args s = true)
    (hcode : (Cond.code y bytes maxL ret).before args s = true) (hy : y.cls ≠ "java/lang/invoke/MethodHandle" ∧ y.cls ≠ "java/lang/invoke/VarHandle")
    {W : Nat} {Pre : Pt → Array Value → Prop} {Post : Pt → Array Value → Option Value → Pt → Prop} {PostX : Pt → Array Value → Addr → Pt → Prop} (hK : vx_Back l R p e below s args y 3 W Pre Post PostX)
    {g : JFrame} (hg : g.method = m) (hsize : g.locals.size = c.maxLocals) {argsL rest : List Value} (hlen : ∀ sig, parseMethodDescriptor y.desc = some sig → argsL.length = sig.parameters.length)
    (hstack : g.stack = argsL.reverse ++ rest) (hW : 2 * g.monitorRoom + (rest.map fun v => v.category).sum ≤ W) (hdg : decode c.code g.pc = .ok (.invokestatic index, 3))
    (hpre : ∀ vm₁, s.WarmedH vm₁ → Pre ⟨T.setVm vm₁, locs, cells, slots⟩ argsL.toArray) :
    (∃ (v : Option Value) (vm₁ : Vm) (B : Pt), s.WarmedH vm₁ ∧ Stand p l e R s m args below meth c B.U B.locs B.cells B.slots ∧ Post ⟨T.setVm vm₁, locs, cells, slots⟩ argsL.toArray v B ∧
      ∀ target, Steps p.tables e below (B.U.setTop { g with pc := g.pc + 3, stack := v.toList ++ rest }) target → Steps p.tables e below (T.setTop g) target) ∨
    (∃ (q : Addr) (vm₁ : Vm) (B : Pt), s.WarmedH vm₁ ∧ Stand p l e R s m args below meth c B.U B.locs B.cells B.slots ∧ PostX ⟨T.setVm vm₁, locs, cells, slots⟩ argsL.toArray q B ∧
      Steps p.tables e below (T.setTop g) ((B.U.setTop { g with stack := rest }).pushFrame (.throwing q))) := by
  obtain ⟨mk, hnamed⟩ := Cond.code_named hcode
  obtain ⟨methM, cM, hmethM, -, -, -, -, -, -, hsigM⟩ := Cond.code_spec hnamed hcode
  have hstatic : methM.isStatic = true := Cond.static_spec hnamed hmethM hstat
  obtain ⟨kP, hkP, -⟩ := className_of_methodNamed hnamed
  have hinitP : kP.init = .initialized := Cond.initialized_spec (findClass_of_methodNamed hnamed) hkP hinit
  obtain ⟨vm₁, X₁, hstep₁⟩ := X.invokestaticNest hexec hown hlink hnamed hmethM hstatic hkP hinitP hy (g := g) hg (argsL := argsL) (rest := rest) (hlen _ hsigM) hstack hdg
  rcases hK m meth c ⟨T.setVm vm₁, locs, cells, slots⟩ { g with stack := rest } (.invokestatic index) mk argsL.toArray X₁ hg hsize hdg hW (X₁.named hnamed) (hpre vm₁ X₁.warmed) with ⟨v, B, X', hpost, hsteps⟩ | ⟨q, B, X', hpost, hsteps⟩
  · exact Or.inl ⟨v, vm₁, B, X₁.warmed, X', hpost, fun target h => hstep₁ _ fun acts => by rw [doInvoke_state]; exact hsteps.trans h⟩
  · exact Or.inr ⟨q, vm₁, B, X₁.warmed, X', hpost, hstep₁ _ fun acts => by rw [doInvoke_state]; exact hsteps⟩
theorem vx_runVN {y : MethodName} {bytes cc : ByteArray} {maxL nL mc ms n index : Nat} {ret : Option FieldType} {ws : List Cond} {rm : Room} {Pc : Array Value → State → Prop} {Qc : Array Value → State → Outcome → State → Prop} {XC : String → State → State → Prop} {free : Addr → Prop} {Ts : List Cond} {own C host : String} {b : Addr} {As rest : List Value} {g : JFrame}
    (S : CallFix p m c cc nL s args Ts own) (hM : vx_Met l y ws rm Pc Qc XC mc ms free) (cw : va_CN R s args own index y host bytes maxL ret ws rm mc ms n ∧ (Cond.instanceMethod y).before args s = true ∧ (Cond.selects C y y).before args s = true) (hp : PreV s H C b Pc As)
    (hg : g.method = m) (hn : As.length = n) (hsize : g.locals.size = nL) (hstack : g.stack = As.reverse ++ .ref b :: rest) (hW : 2 * g.monitorRoom + (rest.map fun v => v.category).sum ≤ 8) (hdg : decode cc g.pc = .ok (.invokevirtual index, 3)) (hf : cells + mc ≤ R.cells ∧ slots + ms ≤ R.slots) :
    vx_Run p l e R s m args below meth c H locs cells slots mc ms g rest (Qc (Value.ref b :: As).toArray) XC free := by
  obtain ⟨⟨⟨hrc, hrs, hfr, hlo, hws, hcw⟩, hcode, hini, hy, hlen, hl⟩, hx1, hx2⟩ := cw
  have hK : vx_Back l R p e below s args y 3 8 (PreOf R mc ms Pc) (PostOf Qc mc ms free) (vx_Post XC mc ms free) := vx_back (bytes := bytes) (maxL := maxL) (ret := ret) hM hp.1 hrc hrs hfr hlo hws hcw (fun a' U hW => word_at hW (Or.inl (by first | rfl | simp [Cond.onTables, Cond.keeps, Cond.steady])) hini)
  obtain ⟨hx, hb, hml, ho, -⟩ := S
  obtain ⟨-, ⟨cellB, hcB, hoB, hclB⟩, hPc⟩ := hp
  intro T hT X
  rcases vx_callVN X hx (C := C) (bytes := bytes) (maxL := maxL) (ret := ret) ho hl hx1 hx2 hcode hy hK (by rw [hT]; exact hcB) hoB hclB hg (hsize.trans hml.symm) (argsL := As) (rest := rest) (fun sig h => hn.trans (hlen sig h)) hstack hW (by rw [hb]; exact hdg)
    (fun vm₁ hW₁ => ⟨hf.1, hf.2, hPc (T.setVm vm₁) hT hW₁⟩) with ⟨v, vm₁, ⟨U', l2, c2, s2⟩, hW₁, X', ⟨g', mk, t, L, e1, e2, hq, h1, hL, h2, h3⟩, st⟩ | ⟨q, vm₁, ⟨U', l2, c2, s2⟩, hW₁, X', ⟨g', mk, t, L, E, ce, e1, e2, hq, hce, hcv, hcl, h1, hL, h2, h3⟩, st⟩
  · dsimp only [Pt.U, Pt.locs, Pt.cells, Pt.slots] at X' e1 e2 h1 h2 h3 st
    subst h1; subst h2; subst h3
    exact Or.inl ⟨v, (T.setVm vm₁).calling g' mk (Value.ref b :: As).toArray, t, U', L, hT, X', hL, e1, e2, hq, st⟩
  · dsimp only [Pt.U, Pt.locs, Pt.cells, Pt.slots] at X' e1 e2 h1 h2 h3 st hcl
    subst h1; subst h2; subst h3
    exact Or.inr ⟨q, (T.setVm vm₁).calling g' mk (Value.ref b :: As).toArray, t, U', L, E, ce, hT, X', hL, e1, e2, hq, hce, hcv, vx_cls hW₁ hcl, st⟩
theorem vx_runSN {y : MethodName} {bytes cc : ByteArray} {maxL nL mc ms n index : Nat} {ret : Option FieldType} {ws : List Cond} {rm : Room} {Pc : Array Value → State → Prop} {Qc : Array Value → State → Outcome → State → Prop} {XC : String → State → State → Prop} {free : Addr → Prop} {Ts : List Cond} {own host : String} {As rest : List Value} {g : JFrame}
    (S : CallFix p m c cc nL s args Ts own) (hM : vx_Met l y ws rm Pc Qc XC mc ms free) (cw : va_CN R s args own index y host bytes maxL ret ws rm mc ms n ∧ (Cond.static y).before args s = true ∧ True) (hp : PreS s H Pc As)
    (hg : g.method = m) (hn : As.length = n) (hsize : g.locals.size = nL) (hstack : g.stack = As.reverse ++ rest) (hW : 2 * g.monitorRoom + (rest.map fun v => v.category).sum ≤ 8) (hdg : decode cc g.pc = .ok (.invokestatic index, 3)) (hf : cells + mc ≤ R.cells ∧ slots + ms ≤ R.slots) :
    vx_Run p l e R s m args below meth c H locs cells slots mc ms g rest (Qc As.toArray) XC free := by
  obtain ⟨⟨⟨hrc, hrs, hfr, hlo, hws, hcw⟩, hcode, hini, hy, hlen, hl⟩, hx1, hx2⟩ := cw
  have hK : vx_Back l R p e below s args y 3 8 (PreOf R mc ms Pc) (PostOf Qc mc ms free) (vx_Post XC mc ms free) := vx_back (bytes := bytes) (maxL := maxL) (ret := ret) hM hp.1 hrc hrs hfr hlo hws hcw (fun a' U hW => word_at hW (Or.inl (by first | rfl | simp [Cond.onTables, Cond.keeps, Cond.steady])) hini)
  obtain ⟨hx, hb, hml, ho, -⟩ := S
  have hPc := hp.2
  intro T hT X
  rcases vx_callSN X hx (bytes := bytes) (maxL := maxL) (ret := ret) ho hl hx1 hini hcode hy hK hg (hsize.trans hml.symm) (argsL := As) (rest := rest) (fun sig h => hn.trans (hlen sig h)) hstack hW (by rw [hb]; exact hdg)
    (fun vm₁ hW₁ => ⟨hf.1, hf.2, hPc (T.setVm vm₁) hT hW₁⟩) with ⟨v, vm₁, ⟨U', l2, c2, s2⟩, hW₁, X', ⟨g', mk, t, L, e1, e2, hq, h1, hL, h2, h3⟩, st⟩ | ⟨q, vm₁, ⟨U', l2, c2, s2⟩, hW₁, X', ⟨g', mk, t, L, E, ce, e1, e2, hq, hce, hcv, hcl, h1, hL, h2, h3⟩, st⟩
  · dsimp only [Pt.U, Pt.locs, Pt.cells, Pt.slots] at X' e1 e2 h1 h2 h3 st
    subst h1; subst h2; subst h3
    exact Or.inl ⟨v, (T.setVm vm₁).calling g' mk As.toArray, t, U', L, hT, X', hL, e1, e2, hq, st⟩
  · dsimp only [Pt.U, Pt.locs, Pt.cells, Pt.slots] at X' e1 e2 h1 h2 h3 st hcl
    subst h1; subst h2; subst h3
    exact Or.inr ⟨q, (T.setVm vm₁).calling g' mk As.toArray, t, U', L, E, ce, hT, X', hL, e1, e2, hq, hce, hcv, vx_cls hW₁ hcl, st⟩
end
/-! ===== END ===== -/
/-! ===== BEGIN calls by an interface of methods that may throw (vx_callIF, vx_runF follow va_callIF, va_runF of this kit) ===== -/
section
variable {p : Program} {l : Launch} {e : Env} {R : Room} {s : State} {m : MethodId} {args : Array Value} {below : List Frame} {meth : Method} {c : Code} {H : Heap} {locs : List Loc} {cells slots : Nat} {Q : State → Prop}
variable {mc ms : Nat} {free : Addr → Prop} {A0 A1 : Nat → Prop} {H0 : Heap} {a : Array Value} {pc : Nat} {ls : Array Slot} {st0 rest : List Value}
def vx_Run5 (p : Program) (l : Launch) (e : Env) (R : Room) (s : State) (m : MethodId) (args : Array Value) (below : List Frame) (meth : Method) (c : Code) (H : Heap) (locs : List Loc) (cells slots mc ms : Nat) (g : JFrame) (rest : List Value) (Qa : State → Outcome → State → Prop) (XC : String → State → State → Prop) (free : Addr → Prop) : Prop :=
  ∀ T : State, T.heap = H → Stand p l e R s m args below meth c T locs cells slots →
    (∃ (v : Option Value) (st₀ t T' : State) (L : List Loc), st₀.heap = H ∧ Stand p l e R s m args below meth c T' (locs ++ L) (cells + mc) (slots + ms) ∧ (∀ q ∈ L, free q.base) ∧ T'.heap = t.heap ∧ T'.vm = t.vm ∧ Qa st₀ (.returned v) t ∧
      Goes p e below T g T' { g with pc := g.pc + 5, stack := v.toList ++ rest }) ∨
    (∃ (q : Addr) (st₀ t T' : State) (L : List Loc) (E : String) (ce : Cell), st₀.heap = H ∧ Stand p l e R s m args below meth c T' (locs ++ L) (cells + mc) (slots + ms) ∧ (∀ z ∈ L, free z.base) ∧ T'.heap = t.heap ∧ T'.vm = t.vm ∧ XC E st₀ t ∧ t.heap[q]? = some ce ∧ ce.vm = .none ∧ s.vm.findClass E = some ce.cls ∧
      Steps p.tables e below (T.setTop g) ((T'.setTop { g with stack := rest }).pushFrame (.throwing q)))
theorem vx_callIF {T : State} (X : Stand p l e R s m args below meth c T locs cells slots) (hexec : p.tables.exec = Jvm.exec) {own C : String} {index count : Nat} {x y : MethodName} {bytes : ByteArray} {maxL : Nat} {ret : Option FieldType}
    (hown : s.vm.findClass own = some m.cls) (hlink : (Cond.methodLink own index x).before args s = true) (hdecl : (Cond.declares x).before args s = true) (hface : (Cond.interfaceMethod x.cls x.cls x.name x.desc).before args s = true)
    (hsel : (Cond.selects C x y).before args s = true) (hinst : (Cond.instanceMethod y).before args s = true) (hpub : (Cond.publicMethod y).before args s = true) (hunh : (Cond.unhidden C x.name x.desc).before args s = true)
    (hcast : (Cond.castable C x.cls).before args s = true) (hcode : (Cond.code y bytes maxL ret).before args s = true) (hx : x.cls ≠ "java/lang/invoke/MethodHandle" ∧ x.cls ≠ "java/lang/invoke/VarHandle")
    {W9 : Nat} {Pre : Pt → Array Value → Prop} {Post : Pt → Array Value → Option Value → Pt → Prop} {PostX : Pt → Array Value → Addr → Pt → Prop} (hK : vx_Back l R p e below s args y 5 W9 Pre Post PostX)
    {b : Addr} {cellB : Cell} {kB : Class} (hcell : T.heap[b]? = some cellB) (hobj : cellB.vm.isStatics = false) (hcls : s.vm.findClass C = some cellB.cls) (hkB : s.vm.classes[cellB.cls]? = some kB)
    {g : JFrame} (hg : g.method = m) (hsize : g.locals.size = c.maxLocals) {argsL rest : List Value} (hlen : ∀ sig, parseMethodDescriptor x.desc = some sig → argsL.length = sig.parameters.length)
    (hstack : g.stack = argsL.reverse ++ .ref b :: rest) (hW : 2 * g.monitorRoom + (rest.map fun v => v.category).sum ≤ W9) (hdg : decode c.code g.pc = .ok (.invokeinterface index count, 5))
    (hpre : ∀ vm₁, s.WarmedH vm₁ → Pre ⟨T.setVm vm₁, locs, cells, slots⟩ (Value.ref b :: argsL).toArray) :
    (∃ (v : Option Value) (vm₁ : Vm) (B : Pt), s.WarmedH vm₁ ∧ Stand p l e R s m args below meth c B.U B.locs B.cells B.slots ∧ Post ⟨T.setVm vm₁, locs, cells, slots⟩ (Value.ref b :: argsL).toArray v B ∧
      ∀ target, Steps p.tables e below (B.U.setTop { g with pc := g.pc + 5, stack := v.toList ++ rest }) target → Steps p.tables e below (T.setTop g) target) ∨
    (∃ (q : Addr) (vm₁ : Vm) (B : Pt), s.WarmedH vm₁ ∧ Stand p l e R s m args below meth c B.U B.locs B.cells B.slots ∧ PostX ⟨T.setVm vm₁, locs, cells, slots⟩ (Value.ref b :: argsL).toArray q B ∧
      Steps p.tables e below (T.setTop g) ((B.U.setTop { g with stack := rest }).pushFrame (.throwing q))) := by
  obtain ⟨r0, r, hn, hrm, hstR, hsigR⟩ := Cond.declares_spec hdecl
  obtain ⟨cL, kL, r1, hcL, hkL, hiL, hfoundL, hn1⟩ := Cond.interfaceMethod_spec hface
  cases hn.symm.trans hn1
  have hr0cls : r0.cls = cL := Option.some.inj ((findClass_of_methodNamed hn).symm.trans hcL)
  obtain ⟨hnameR, hdescR⟩ := name_of_methodNamed hn hrm
  obtain ⟨mk, methM, hnamed, hmethM, -, habM⟩ := Cond.instanceMethod_spec hinst
  obtain ⟨c2, r2, m2, q1, q2, q3, q4, -⟩ := Cond.selects_spec hsel
  cases hcls.symm.trans q1
  cases hfoundL.symm.trans q2
  cases hnamed.symm.trans q3
  have hselP : selectMethod e.platform s.vm cellB.cls r0 = .method mk := by rw [Launch.admits_selectMethod X.admits]; exact q4
  have hpubM : hasFlag methM.accessFlags Acc.public_ = true := Cond.publicMethod_spec hnamed hmethM hpub
  have hway : ((cellB.cls :: s.vm.superclasses cellB.cls).any fun k => (declaredIn s.vm r.name r.desc k).any fun (_, z) => z.isPrivate || z.isStatic) = false := by
    rw [hnameR, hdescR]; exact Cond.unhidden_spec hcls hunh
  obtain ⟨c3, t3, w1, w2, w3⟩ := Cond.castable_spec hcast
  cases hcls.symm.trans w1
  cases hcL.symm.trans w2
  obtain ⟨vm₁, X₁, hstep₁⟩ := X.invokeinterface hexec hown hlink hn hrm hstR (by rw [hr0cls]; exact hkL) hiL hx (a := b) (cell := cellB) (kcell := kB) hcell
    (fun z h => by rw [h] at hobj; cases hobj) hkB (by rw [hr0cls]; exact w3) hselP hmethM hway hpubM habM (g := g) hg (argsL := argsL) (rest := rest) (hlen _ hsigR) hstack hdg
  rcases hK m meth c ⟨T.setVm vm₁, locs, cells, slots⟩ { g with stack := rest } (.invokeinterface index count) mk (Value.ref b :: argsL).toArray X₁ hg hsize hdg hW (X₁.named hnamed) (hpre vm₁ X₁.warmed) with ⟨v, B, X', hpost, hsteps⟩ | ⟨q, B, X', hpost, hsteps⟩
  · exact Or.inl ⟨v, vm₁, B, X₁.warmed, X', hpost, fun target h => hstep₁ _ fun acts => by rw [doInvoke_state]; exact hsteps.trans h⟩
  · exact Or.inr ⟨q, vm₁, B, X₁.warmed, X', hpost, hstep₁ _ fun acts => by rw [doInvoke_state]; exact hsteps⟩
theorem vx_runF {x y : MethodName} {bytes cc : ByteArray} {maxL nL mc ms n index count : Nat} {ret : Option FieldType} {ws : List Cond} {rm : Room} {Pc : Array Value → State → Prop} {Qc : Array Value → State → Outcome → State → Prop} {XC : String → State → State → Prop} {free : Addr → Prop} {Ts : List Cond} {own C : String} {cC : ClassId} {b : Addr} {As rest : List Value} {g : JFrame}
    (hat : ClassAt s C cC) (S : CallFix p m c cc nL s args Ts own) (hM : vx_Met l y ws rm Pc Qc XC mc ms free) (cw : va_CI R s args own C index x y bytes maxL ret ws rm mc ms n) (hp : PreV s H C b Pc As)
    (hg : g.method = m) (hn : As.length = n) (hsize : g.locals.size = nL) (hstack : g.stack = As.reverse ++ .ref b :: rest) (hW : 2 * g.monitorRoom + (rest.map fun v => v.category).sum ≤ 8) (hdg : decode cc g.pc = .ok (.invokeinterface index count, 5)) (hf : cells + mc ≤ R.cells ∧ slots + ms ≤ R.slots) :
    vx_Run5 p l e R s m args below meth c H locs cells slots mc ms g rest (Qc (Value.ref b :: As).toArray) XC free := by
  obtain ⟨hrc, hrs, hfr, hlo, hws, hcw⟩ := cw.back
  have hini := cw.init
  have hK : vx_Back l R p e below s args y 5 8 (PreOf R mc ms Pc) (PostOf Qc mc ms free) (vx_Post XC mc ms free) := vx_back (bytes := bytes) (maxL := maxL) (ret := ret) hM hp.1 hrc hrs hfr hlo hws hcw (fun a' U hW => word_at hW (Or.inl (by first | rfl | simp [Cond.onTables, Cond.keeps, Cond.steady])) hini)
  obtain ⟨hx, hb, hml, ho, -⟩ := S
  obtain ⟨-, ⟨cellB, hcB, hoB, hclB⟩, hPc⟩ := hp
  obtain ⟨hfc, kB, hkB, -⟩ := hat
  cases hfc.symm.trans hclB
  intro T hT X
  rcases vx_callIF X hx (C := C) (bytes := bytes) (maxL := maxL) (ret := ret) ho cw.link cw.decl cw.face cw.sel cw.inst cw.pub cw.unh cw.cast cw.code cw.notMH hK (by rw [hT]; exact hcB) hoB hclB hkB hg (hsize.trans hml.symm) (argsL := As) (rest := rest) (fun sig h => hn.trans (cw.len sig h)) hstack hW (by rw [hb]; exact hdg)
    (fun vm₁ hW₁ => ⟨hf.1, hf.2, hPc (T.setVm vm₁) hT hW₁⟩) with ⟨v, vm₁, ⟨U', l2, c2, s2⟩, hW₁, X', ⟨g', mk, t, L, e1, e2, hq, h1, hL, h2, h3⟩, st⟩ | ⟨q, vm₁, ⟨U', l2, c2, s2⟩, hW₁, X', ⟨g', mk, t, L, E, ce, e1, e2, hq, hce, hcv, hcl, h1, hL, h2, h3⟩, st⟩
  · dsimp only [Pt.U, Pt.locs, Pt.cells, Pt.slots] at X' e1 e2 h1 h2 h3 st
    subst h1; subst h2; subst h3
    exact Or.inl ⟨v, (T.setVm vm₁).calling g' mk (Value.ref b :: As).toArray, t, U', L, hT, X', hL, e1, e2, hq, st⟩
  · dsimp only [Pt.U, Pt.locs, Pt.cells, Pt.slots] at X' e1 e2 h1 h2 h3 st hcl
    subst h1; subst h2; subst h3
    exact Or.inr ⟨q, (T.setVm vm₁).calling g' mk (Value.ref b :: As).toArray, t, U', L, E, ce, hT, X', hL, e1, e2, hq, hce, hcv, vx_cls hW₁ hcl, st⟩
theorem vx_callFv {S SX : Type} {post : S → Prop} {px : SX → Prop} {B : S → State → Prop} {BX : String → SX → State → Prop} {AX : Nat → Prop} (hr : vx_Run5 p l e R s m args below meth c H locs cells slots mc ms (F0 m pc ls st0) rest (va_Qv post B A1 a) (vx_X px BX AX) free) (hS : va_S A0 H0 H locs) (hA : ∀ q, q < H.size → A1 q → A0 q) (hf : ∀ q, free q → A0 q) (hAX : ∀ q, q < H.size → AX q → A0 q)
    (kx : ∀ (E : String) (ce : Cell) (q9 : Addr) (u : SX) (t : State) (H1 : Heap) (locs1 : List Loc), t.heap = H1 → s.vm.Alike t.vm → px u → BX E u t → H.size ≤ H1.size → (∀ q : Nat, q < H.size → ¬ AX q → H1[q]? = H[q]?) → va_S A0 H0 H1 locs1 → H1[q9]? = some ce → ce.vm = .none → s.vm.findClass E = some ce.cls → vx_W p l e R s m args below meth c H1 locs1 (cells + mc) (slots + ms) Q (F0 m pc ls rest) q9)
    (kk : ∀ (u : S) (t : State) (H1 : Heap) (locs1 : List Loc), t.heap = H1 → s.vm.Alike t.vm → post u → B u t → H.size ≤ H1.size → (∀ q : Nat, q < H.size → ¬ A1 q → H1[q]? = H[q]?) → va_S A0 H0 H1 locs1 → W p l e R s m args below meth c H1 locs1 (cells + mc) (slots + ms) Q (F0 m (pc + 5) ls (rest))) : W p l e R s m args below meth c H locs cells slots Q (F0 m pc ls st0) := by
  intro T hT X
  rcases hr T hT X with ⟨v, st₀, t, T', L, h0, X', hL, e1, e2, ⟨⟨u, hv, hp, hb⟩, hF⟩, st⟩ | ⟨q, st₀, t, T', L, E, ce, h0, X', hL, e1, e2, ⟨u, hp, hb, hF⟩, hce, hcv, hcl, st⟩
  · cases hv
    obtain ⟨k1, k2, k3⟩ := vx_keep h0 e1 hS hA hf hL hF
    obtain ⟨t2, a1, b1⟩ := kk u t T'.heap (locs ++ L) e1.symm (by rw [← e2]; exact X'.warmed.alike) hp hb k1 k2 k3 T' rfl X'
    exact ⟨t2, st t2 a1, b1⟩
  · obtain ⟨k1, k2, k3⟩ := vx_keep h0 e1 hS hAX hf hL hF
    obtain ⟨t2, a1, b1⟩ := kx E ce q u t T'.heap (locs ++ L) e1.symm (by rw [← e2]; exact X'.warmed.alike) hp hb k1 k2 k3 (by rw [e1]; exact hce) hcv hcl T' rfl X'
    exact ⟨t2, st.trans a1, b1⟩
theorem vx_callFi {S SX : Type} {post : Int32 → S → Prop} {px : SX → Prop} {B : S → State → Prop} {BX : String → SX → State → Prop} {AX : Nat → Prop} (hr : vx_Run5 p l e R s m args below meth c H locs cells slots mc ms (F0 m pc ls st0) rest (va_Qi post B A1 a) (vx_X px BX AX) free) (hS : va_S A0 H0 H locs) (hA : ∀ q, q < H.size → A1 q → A0 q) (hf : ∀ q, free q → A0 q) (hAX : ∀ q, q < H.size → AX q → A0 q)
    (kx : ∀ (E : String) (ce : Cell) (q9 : Addr) (u : SX) (t : State) (H1 : Heap) (locs1 : List Loc), t.heap = H1 → s.vm.Alike t.vm → px u → BX E u t → H.size ≤ H1.size → (∀ q : Nat, q < H.size → ¬ AX q → H1[q]? = H[q]?) → va_S A0 H0 H1 locs1 → H1[q9]? = some ce → ce.vm = .none → s.vm.findClass E = some ce.cls → vx_W p l e R s m args below meth c H1 locs1 (cells + mc) (slots + ms) Q (F0 m pc ls rest) q9)
    (kk : ∀ (r : Int32) (u : S) (t : State) (H1 : Heap) (locs1 : List Loc), t.heap = H1 → s.vm.Alike t.vm → post r u → B u t → H.size ≤ H1.size → (∀ q : Nat, q < H.size → ¬ A1 q → H1[q]? = H[q]?) → va_S A0 H0 H1 locs1 → W p l e R s m args below meth c H1 locs1 (cells + mc) (slots + ms) Q (F0 m (pc + 5) ls (.int r :: rest))) : W p l e R s m args below meth c H locs cells slots Q (F0 m pc ls st0) := by
  intro T hT X
  rcases hr T hT X with ⟨v, st₀, t, T', L, h0, X', hL, e1, e2, ⟨⟨r, u, hv, hp, hb⟩, hF⟩, st⟩ | ⟨q, st₀, t, T', L, E, ce, h0, X', hL, e1, e2, ⟨u, hp, hb, hF⟩, hce, hcv, hcl, st⟩
  · cases hv
    obtain ⟨k1, k2, k3⟩ := vx_keep h0 e1 hS hA hf hL hF
    obtain ⟨t2, a1, b1⟩ := kk r u t T'.heap (locs ++ L) e1.symm (by rw [← e2]; exact X'.warmed.alike) hp hb k1 k2 k3 T' rfl X'
    exact ⟨t2, st t2 a1, b1⟩
  · obtain ⟨k1, k2, k3⟩ := vx_keep h0 e1 hS hAX hf hL hF
    obtain ⟨t2, a1, b1⟩ := kx E ce q u t T'.heap (locs ++ L) e1.symm (by rw [← e2]; exact X'.warmed.alike) hp hb k1 k2 k3 (by rw [e1]; exact hce) hcv hcl T' rfl X'
    exact ⟨t2, st.trans a1, b1⟩
theorem vx_callFl {S SX : Type} {post : Int64 → S → Prop} {px : SX → Prop} {B : S → State → Prop} {BX : String → SX → State → Prop} {AX : Nat → Prop} (hr : vx_Run5 p l e R s m args below meth c H locs cells slots mc ms (F0 m pc ls st0) rest (va_Ql post B A1 a) (vx_X px BX AX) free) (hS : va_S A0 H0 H locs) (hA : ∀ q, q < H.size → A1 q → A0 q) (hf : ∀ q, free q → A0 q) (hAX : ∀ q, q < H.size → AX q → A0 q)
    (kx : ∀ (E : String) (ce : Cell) (q9 : Addr) (u : SX) (t : State) (H1 : Heap) (locs1 : List Loc), t.heap = H1 → s.vm.Alike t.vm → px u → BX E u t → H.size ≤ H1.size → (∀ q : Nat, q < H.size → ¬ AX q → H1[q]? = H[q]?) → va_S A0 H0 H1 locs1 → H1[q9]? = some ce → ce.vm = .none → s.vm.findClass E = some ce.cls → vx_W p l e R s m args below meth c H1 locs1 (cells + mc) (slots + ms) Q (F0 m pc ls rest) q9)
    (kk : ∀ (r : Int64) (u : S) (t : State) (H1 : Heap) (locs1 : List Loc), t.heap = H1 → s.vm.Alike t.vm → post r u → B u t → H.size ≤ H1.size → (∀ q : Nat, q < H.size → ¬ A1 q → H1[q]? = H[q]?) → va_S A0 H0 H1 locs1 → W p l e R s m args below meth c H1 locs1 (cells + mc) (slots + ms) Q (F0 m (pc + 5) ls (.long r :: rest))) : W p l e R s m args below meth c H locs cells slots Q (F0 m pc ls st0) := by
  intro T hT X
  rcases hr T hT X with ⟨v, st₀, t, T', L, h0, X', hL, e1, e2, ⟨⟨r, u, hv, hp, hb⟩, hF⟩, st⟩ | ⟨q, st₀, t, T', L, E, ce, h0, X', hL, e1, e2, ⟨u, hp, hb, hF⟩, hce, hcv, hcl, st⟩
  · cases hv
    obtain ⟨k1, k2, k3⟩ := vx_keep h0 e1 hS hA hf hL hF
    obtain ⟨t2, a1, b1⟩ := kk r u t T'.heap (locs ++ L) e1.symm (by rw [← e2]; exact X'.warmed.alike) hp hb k1 k2 k3 T' rfl X'
    exact ⟨t2, st t2 a1, b1⟩
  · obtain ⟨k1, k2, k3⟩ := vx_keep h0 e1 hS hAX hf hL hF
    obtain ⟨t2, a1, b1⟩ := kx E ce q u t T'.heap (locs ++ L) e1.symm (by rw [← e2]; exact X'.warmed.alike) hp hb k1 k2 k3 (by rw [e1]; exact hce) hcv hcl T' rfl X'
    exact ⟨t2, st.trans a1, b1⟩
theorem vx_callFf {S SX : Type} {post : UInt32 → S → Prop} {px : SX → Prop} {B : S → State → Prop} {BX : String → SX → State → Prop} {AX : Nat → Prop} (hr : vx_Run5 p l e R s m args below meth c H locs cells slots mc ms (F0 m pc ls st0) rest (va_Qf post B A1 a) (vx_X px BX AX) free) (hS : va_S A0 H0 H locs) (hA : ∀ q, q < H.size → A1 q → A0 q) (hf : ∀ q, free q → A0 q) (hAX : ∀ q, q < H.size → AX q → A0 q)
    (kx : ∀ (E : String) (ce : Cell) (q9 : Addr) (u : SX) (t : State) (H1 : Heap) (locs1 : List Loc), t.heap = H1 → s.vm.Alike t.vm → px u → BX E u t → H.size ≤ H1.size → (∀ q : Nat, q < H.size → ¬ AX q → H1[q]? = H[q]?) → va_S A0 H0 H1 locs1 → H1[q9]? = some ce → ce.vm = .none → s.vm.findClass E = some ce.cls → vx_W p l e R s m args below meth c H1 locs1 (cells + mc) (slots + ms) Q (F0 m pc ls rest) q9)
    (kk : ∀ (r : UInt32) (u : S) (t : State) (H1 : Heap) (locs1 : List Loc), t.heap = H1 → s.vm.Alike t.vm → post r u → B u t → H.size ≤ H1.size → (∀ q : Nat, q < H.size → ¬ A1 q → H1[q]? = H[q]?) → va_S A0 H0 H1 locs1 → W p l e R s m args below meth c H1 locs1 (cells + mc) (slots + ms) Q (F0 m (pc + 5) ls (.float r :: rest))) : W p l e R s m args below meth c H locs cells slots Q (F0 m pc ls st0) := by
  intro T hT X
  rcases hr T hT X with ⟨v, st₀, t, T', L, h0, X', hL, e1, e2, ⟨⟨r, u, hv, hp, hb⟩, hF⟩, st⟩ | ⟨q, st₀, t, T', L, E, ce, h0, X', hL, e1, e2, ⟨u, hp, hb, hF⟩, hce, hcv, hcl, st⟩
  · cases hv
    obtain ⟨k1, k2, k3⟩ := vx_keep h0 e1 hS hA hf hL hF
    obtain ⟨t2, a1, b1⟩ := kk r u t T'.heap (locs ++ L) e1.symm (by rw [← e2]; exact X'.warmed.alike) hp hb k1 k2 k3 T' rfl X'
    exact ⟨t2, st t2 a1, b1⟩
  · obtain ⟨k1, k2, k3⟩ := vx_keep h0 e1 hS hAX hf hL hF
    obtain ⟨t2, a1, b1⟩ := kx E ce q u t T'.heap (locs ++ L) e1.symm (by rw [← e2]; exact X'.warmed.alike) hp hb k1 k2 k3 (by rw [e1]; exact hce) hcv hcl T' rfl X'
    exact ⟨t2, st.trans a1, b1⟩
theorem vx_callFd {S SX : Type} {post : UInt64 → S → Prop} {px : SX → Prop} {B : S → State → Prop} {BX : String → SX → State → Prop} {AX : Nat → Prop} (hr : vx_Run5 p l e R s m args below meth c H locs cells slots mc ms (F0 m pc ls st0) rest (va_Qd post B A1 a) (vx_X px BX AX) free) (hS : va_S A0 H0 H locs) (hA : ∀ q, q < H.size → A1 q → A0 q) (hf : ∀ q, free q → A0 q) (hAX : ∀ q, q < H.size → AX q → A0 q)
    (kx : ∀ (E : String) (ce : Cell) (q9 : Addr) (u : SX) (t : State) (H1 : Heap) (locs1 : List Loc), t.heap = H1 → s.vm.Alike t.vm → px u → BX E u t → H.size ≤ H1.size → (∀ q : Nat, q < H.size → ¬ AX q → H1[q]? = H[q]?) → va_S A0 H0 H1 locs1 → H1[q9]? = some ce → ce.vm = .none → s.vm.findClass E = some ce.cls → vx_W p l e R s m args below meth c H1 locs1 (cells + mc) (slots + ms) Q (F0 m pc ls rest) q9)
    (kk : ∀ (r : UInt64) (u : S) (t : State) (H1 : Heap) (locs1 : List Loc), t.heap = H1 → s.vm.Alike t.vm → post r u → B u t → H.size ≤ H1.size → (∀ q : Nat, q < H.size → ¬ A1 q → H1[q]? = H[q]?) → va_S A0 H0 H1 locs1 → W p l e R s m args below meth c H1 locs1 (cells + mc) (slots + ms) Q (F0 m (pc + 5) ls (.double r :: rest))) : W p l e R s m args below meth c H locs cells slots Q (F0 m pc ls st0) := by
  intro T hT X
  rcases hr T hT X with ⟨v, st₀, t, T', L, h0, X', hL, e1, e2, ⟨⟨r, u, hv, hp, hb⟩, hF⟩, st⟩ | ⟨q, st₀, t, T', L, E, ce, h0, X', hL, e1, e2, ⟨u, hp, hb, hF⟩, hce, hcv, hcl, st⟩
  · cases hv
    obtain ⟨k1, k2, k3⟩ := vx_keep h0 e1 hS hA hf hL hF
    obtain ⟨t2, a1, b1⟩ := kk r u t T'.heap (locs ++ L) e1.symm (by rw [← e2]; exact X'.warmed.alike) hp hb k1 k2 k3 T' rfl X'
    exact ⟨t2, st t2 a1, b1⟩
  · obtain ⟨k1, k2, k3⟩ := vx_keep h0 e1 hS hAX hf hL hF
    obtain ⟨t2, a1, b1⟩ := kx E ce q u t T'.heap (locs ++ L) e1.symm (by rw [← e2]; exact X'.warmed.alike) hp hb k1 k2 k3 (by rw [e1]; exact hce) hcv hcl T' rfl X'
    exact ⟨t2, st.trans a1, b1⟩
end
/-! ===== END ===== -/
/-! ===== BEGIN by an interface, a method with a table of its own that may throw (follows va_callIFW, va_runFW) ===== -/
section
variable {p : Program} {l : Launch} {e : Env} {R : Room} {s : State} {m : MethodId} {args : Array Value} {below : List Frame} {meth : Method} {c : Code} {H : Heap} {locs : List Loc} {cells slots : Nat}
theorem vx_callIFW {T : State} (X : Stand p l e R s m args below meth c T locs cells slots) (hexec : p.tables.exec = Jvm.exec) {own C : String} {index count : Nat} {x y : MethodName} {bytes : ByteArray} {maxL : Nat} {ret : Option FieldType} {hh : List (Nat × Nat × Nat × Nat)}
    (hown : s.vm.findClass own = some m.cls) (hlink : (Cond.methodLink own index x).before args s = true) (hdecl : (Cond.declares x).before args s = true) (hface : (Cond.interfaceMethod x.cls x.cls x.name x.desc).before args s = true)
    (hsel : (Cond.selects C x y).before args s = true) (hinst : (Cond.instanceMethod y).before args s = true) (hpub : (Cond.publicMethod y).before args s = true) (hunh : (Cond.unhidden C x.name x.desc).before args s = true)
    (hcast : (Cond.castable C x.cls).before args s = true) (hcode : (Cond.codeWith y bytes maxL ret hh).before args s = true) (hx : x.cls ≠ "java/lang/invoke/MethodHandle" ∧ x.cls ≠ "java/lang/invoke/VarHandle")
    {W : Nat} {Pre : Pt → Array Value → Prop} {Post : Pt → Array Value → Option Value → Pt → Prop} {PostX : Pt → Array Value → Addr → Pt → Prop} (hK : vx_Back l R p e below s args y 5 W Pre Post PostX)
    {b : Addr} {cellB : Cell} {kB : Class} (hcell : T.heap[b]? = some cellB) (hobj : cellB.vm.isStatics = false) (hcls : s.vm.findClass C = some cellB.cls) (hkB : s.vm.classes[cellB.cls]? = some kB)
    {g : JFrame} (hg : g.method = m) (hsize : g.locals.size = c.maxLocals) {argsL rest : List Value} (hlen : ∀ sig, parseMethodDescriptor x.desc = some sig → argsL.length = sig.parameters.length)
    (hstack : g.stack = argsL.reverse ++ .ref b :: rest) (hW : 2 * g.monitorRoom + (rest.map fun v => v.category).sum ≤ W) (hdg : decode c.code g.pc = .ok (.invokeinterface index count, 5))
    (hpre : ∀ vm₁, s.WarmedH vm₁ → Pre ⟨T.setVm vm₁, locs, cells, slots⟩ (Value.ref b :: argsL).toArray) :
    (∃ (v : Option Value) (vm₁ : Vm) (B : Pt), s.WarmedH vm₁ ∧ Stand p l e R s m args below meth c B.U B.locs B.cells B.slots ∧ Post ⟨T.setVm vm₁, locs, cells, slots⟩ (Value.ref b :: argsL).toArray v B ∧
      ∀ target, Steps p.tables e below (B.U.setTop { g with pc := g.pc + 5, stack := v.toList ++ rest }) target → Steps p.tables e below (T.setTop g) target) ∨
    (∃ (q : Addr) (vm₁ : Vm) (B : Pt), s.WarmedH vm₁ ∧ Stand p l e R s m args below meth c B.U B.locs B.cells B.slots ∧ PostX ⟨T.setVm vm₁, locs, cells, slots⟩ (Value.ref b :: argsL).toArray q B ∧
      Steps p.tables e below (T.setTop g) ((B.U.setTop { g with stack := rest }).pushFrame (.throwing q))) := by
  obtain ⟨r0, r, hn, hrm, hstR, hsigR⟩ := Cond.declares_spec hdecl
  obtain ⟨cL, kL, r1, hcL, hkL, hiL, hfoundL, hn1⟩ := Cond.interfaceMethod_spec hface
  cases hn.symm.trans hn1
  have hr0cls : r0.cls = cL := Option.some.inj ((findClass_of_methodNamed hn).symm.trans hcL)
  obtain ⟨hnameR, hdescR⟩ := name_of_methodNamed hn hrm
  obtain ⟨mk, methM, hnamed, hmethM, -, habM⟩ := Cond.instanceMethod_spec hinst
  obtain ⟨c2, r2, m2, q1, q2, q3, q4, -⟩ := Cond.selects_spec hsel
  cases hcls.symm.trans q1
  cases hfoundL.symm.trans q2
  cases hnamed.symm.trans q3
  have hselP : selectMethod e.platform s.vm cellB.cls r0 = .method mk := by rw [Launch.admits_selectMethod X.admits]; exact q4
  have hpubM : hasFlag methM.accessFlags Acc.public_ = true := Cond.publicMethod_spec hnamed hmethM hpub
  have hway : ((cellB.cls :: s.vm.superclasses cellB.cls).any fun k => (declaredIn s.vm r.name r.desc k).any fun (_, z) => z.isPrivate || z.isStatic) = false := by
    rw [hnameR, hdescR]; exact Cond.unhidden_spec hcls hunh
  obtain ⟨c3, t3, w1, w2, w3⟩ := Cond.castable_spec hcast
  cases hcls.symm.trans w1
  cases hcL.symm.trans w2
  obtain ⟨vm₁, X₁, hstep₁⟩ := X.invokeinterface hexec hown hlink hn hrm hstR (by rw [hr0cls]; exact hkL) hiL hx (a := b) (cell := cellB) (kcell := kB) hcell
    (fun z h => by rw [h] at hobj; cases hobj) hkB (by rw [hr0cls]; exact w3) hselP hmethM hway hpubM habM (g := g) hg (argsL := argsL) (rest := rest) (hlen _ hsigR) hstack hdg
  rcases hK m meth c ⟨T.setVm vm₁, locs, cells, slots⟩ { g with stack := rest } (.invokeinterface index count) mk (Value.ref b :: argsL).toArray X₁ hg hsize hdg hW (X₁.named hnamed) (hpre vm₁ X₁.warmed) with ⟨v, B, X', hpost, hsteps⟩ | ⟨q, B, X', hpost, hsteps⟩
  · exact Or.inl ⟨v, vm₁, B, X₁.warmed, X', hpost, fun target h => hstep₁ _ fun acts => by rw [doInvoke_state]; exact hsteps.trans h⟩
  · exact Or.inr ⟨q, vm₁, B, X₁.warmed, X', hpost, hstep₁ _ fun acts => by rw [doInvoke_state]; exact hsteps⟩
theorem vx_runFW {x y : MethodName} {bytes cc : ByteArray} {maxL nL mc ms n index count : Nat} {ret : Option FieldType} {hh : List (Nat × Nat × Nat × Nat)} {ws : List Cond} {rm : Room} {Pc : Array Value → State → Prop} {Qc : Array Value → State → Outcome → State → Prop} {XC : String → State → State → Prop} {free : Addr → Prop} {Ts : List Cond} {own C : String} {cC : ClassId} {b : Addr} {As rest : List Value} {g : JFrame}
    (hat : ClassAt s C cC) (S : CallFix p m c cc nL s args Ts own) (hM : vx_Met l y ws rm Pc Qc XC mc ms free) (cw : va_CIW R s args own C index x y bytes maxL ret hh ws rm mc ms n) (hp : PreV s H C b Pc As)
    (hg : g.method = m) (hn : As.length = n) (hsize : g.locals.size = nL) (hstack : g.stack = As.reverse ++ .ref b :: rest) (hW : 2 * g.monitorRoom + (rest.map fun v => v.category).sum ≤ 8) (hdg : decode cc g.pc = .ok (.invokeinterface index count, 5)) (hf : cells + mc ≤ R.cells ∧ slots + ms ≤ R.slots) :
    vx_Run5 p l e R s m args below meth c H locs cells slots mc ms g rest (Qc (Value.ref b :: As).toArray) XC free := by
  obtain ⟨hrc, hrs, hfr, hlo, hws, hcw⟩ := cw.back
  have hini := cw.init
  have hK : vx_Back l R p e below s args y 5 8 (PreOf R mc ms Pc) (PostOf Qc mc ms free) (vx_Post XC mc ms free) := vx_backW (hh := hh) (bytes := bytes) (maxL := maxL) (ret := ret) hM hp.1 hrc hrs hfr hlo hws hcw (fun a' U hW => word_at hW (Or.inl (by first | rfl | simp [Cond.onTables, Cond.keeps, Cond.steady])) hini)
  obtain ⟨hx, hb, hml, ho, -⟩ := S
  obtain ⟨-, ⟨cellB, hcB, hoB, hclB⟩, hPc⟩ := hp
  obtain ⟨hfc, kB, hkB, -⟩ := hat
  cases hfc.symm.trans hclB
  intro T hT X
  rcases vx_callIFW X hx (C := C) (hh := hh) (bytes := bytes) (maxL := maxL) (ret := ret) ho cw.link cw.decl cw.face cw.sel cw.inst cw.pub cw.unh cw.cast cw.code cw.notMH hK (by rw [hT]; exact hcB) hoB hclB hkB hg (hsize.trans hml.symm) (argsL := As) (rest := rest) (fun sig h => hn.trans (cw.len sig h)) hstack hW (by rw [hb]; exact hdg)
    (fun vm₁ hW₁ => ⟨hf.1, hf.2, hPc (T.setVm vm₁) hT hW₁⟩) with ⟨v, vm₁, ⟨U', l2, c2, s2⟩, hW₁, X', ⟨g', mk, t, L, e1, e2, hq, h1, hL, h2, h3⟩, st⟩ | ⟨q, vm₁, ⟨U', l2, c2, s2⟩, hW₁, X', ⟨g', mk, t, L, E, ce, e1, e2, hq, hce, hcv, hcl, h1, hL, h2, h3⟩, st⟩
  · dsimp only [Pt.U, Pt.locs, Pt.cells, Pt.slots] at X' e1 e2 h1 h2 h3 st
    subst h1; subst h2; subst h3
    exact Or.inl ⟨v, (T.setVm vm₁).calling g' mk (Value.ref b :: As).toArray, t, U', L, hT, X', hL, e1, e2, hq, st⟩
  · dsimp only [Pt.U, Pt.locs, Pt.cells, Pt.slots] at X' e1 e2 h1 h2 h3 st hcl
    subst h1; subst h2; subst h3
    exact Or.inr ⟨q, (T.setVm vm₁).calling g' mk (Value.ref b :: As).toArray, t, U', L, E, ce, hT, X', hL, e1, e2, hq, hce, hcv, vx_cls hW₁ hcl, st⟩
end
/-! ===== END ===== -/
/-! ===== BEGIN .. of methods that hand back an object of the pool ===== -/
section
variable {p : Program} {l : Launch} {e : Env} {R : Room} {s : State} {m : MethodId} {args : Array Value} {below : List Frame} {meth : Method} {c : Code} {H : Heap} {locs : List Loc} {cells slots : Nat} {Q : State → Prop}
variable {mc ms : Nat} {free : Addr → Prop} {A0 A1 : Nat → Prop} {H0 : Heap} {a : Array Value} {pc : Nat} {ls : Array Slot} {st0 rest : List Value}
theorem vx_callq {S SX : Type} {post : Option Nat → S → Prop} {px : SX → Prop} {B : S → State → Prop} {BX : String → SX → State → Prop} {AX : Nat → Prop} (hr : vx_Run p l e R s m args below meth c H locs cells slots mc ms (F0 m pc ls st0) rest (va_Qq post B A1 a) (vx_X px BX AX) free) (hS : va_S A0 H0 H locs) (hA : ∀ q, q < H.size → A1 q → A0 q) (hf : ∀ q, free q → A0 q) (hAX : ∀ q, q < H.size → AX q → A0 q)
    (kx : ∀ (E : String) (ce : Cell) (q9 : Addr) (u : SX) (t : State) (H1 : Heap) (locs1 : List Loc), t.heap = H1 → s.vm.Alike t.vm → px u → BX E u t → H.size ≤ H1.size → (∀ q : Nat, q < H.size → ¬ AX q → H1[q]? = H[q]?) → va_S A0 H0 H1 locs1 → H1[q9]? = some ce → ce.vm = .none → s.vm.findClass E = some ce.cls → vx_W p l e R s m args below meth c H1 locs1 (cells + mc) (slots + ms) Q (F0 m pc ls rest) q9)
    (kk : ∀ (r : Option Nat) (u : S) (t : State) (H1 : Heap) (locs1 : List Loc), t.heap = H1 → s.vm.Alike t.vm → post r u → B u t → H.size ≤ H1.size → (∀ q : Nat, q < H.size → ¬ A1 q → H1[q]? = H[q]?) → va_S A0 H0 H1 locs1 → W p l e R s m args below meth c H1 locs1 (cells + mc) (slots + ms) Q (F0 m (pc + 3) ls (va_rf r :: rest))) : W p l e R s m args below meth c H locs cells slots Q (F0 m pc ls st0) := by
  intro T hT X
  rcases hr T hT X with ⟨v, st₀, t, T', L, h0, X', hL, e1, e2, ⟨⟨r, u, hv, hp, hb⟩, hF⟩, st⟩ | ⟨q, st₀, t, T', L, E, ce, h0, X', hL, e1, e2, ⟨u, hp, hb, hF⟩, hce, hcv, hcl, st⟩
  · cases hv
    obtain ⟨k1, k2, k3⟩ := vx_keep h0 e1 hS hA hf hL hF
    obtain ⟨t2, a1, b1⟩ := kk r u t T'.heap (locs ++ L) e1.symm (by rw [← e2]; exact X'.warmed.alike) hp hb k1 k2 k3 T' rfl X'
    exact ⟨t2, st t2 a1, b1⟩
  · obtain ⟨k1, k2, k3⟩ := vx_keep h0 e1 hS hAX hf hL hF
    obtain ⟨t2, a1, b1⟩ := kx E ce q u t T'.heap (locs ++ L) e1.symm (by rw [← e2]; exact X'.warmed.alike) hp hb k1 k2 k3 (by rw [e1]; exact hce) hcv hcl T' rfl X'
    exact ⟨t2, st.trans a1, b1⟩
end
/-! ===== END ===== -/
/-! ===== BEGIN .. a constant ===== -/
section
variable {p : Program} {l : Launch} {e : Env} {R : Room} {s : State} {m : MethodId} {args : Array Value} {below : List Frame} {meth : Method} {c : Code} {H : Heap} {locs : List Loc} {cells slots : Nat} {Q : State → Prop}
variable {mc ms : Nat} {free : Addr → Prop} {A0 A1 : Nat → Prop} {H0 : Heap} {a : Array Value} {pc : Nat} {ls : Array Slot} {st0 rest : List Value}
theorem vx_calle {ad : Nat → Nat} {S SX : Type} {post : Option Nat → S → Prop} {px : SX → Prop} {B : S → State → Prop} {BX : String → SX → State → Prop} {AX : Nat → Prop} (hr : vx_Run p l e R s m args below meth c H locs cells slots mc ms (F0 m pc ls st0) rest (va_Qe ad post B A1 a) (vx_X px BX AX) free) (hS : va_S A0 H0 H locs) (hA : ∀ q, q < H.size → A1 q → A0 q) (hf : ∀ q, free q → A0 q) (hAX : ∀ q, q < H.size → AX q → A0 q)
    (kx : ∀ (E : String) (ce : Cell) (q9 : Addr) (u : SX) (t : State) (H1 : Heap) (locs1 : List Loc), t.heap = H1 → s.vm.Alike t.vm → px u → BX E u t → H.size ≤ H1.size → (∀ q : Nat, q < H.size → ¬ AX q → H1[q]? = H[q]?) → va_S A0 H0 H1 locs1 → H1[q9]? = some ce → ce.vm = .none → s.vm.findClass E = some ce.cls → vx_W p l e R s m args below meth c H1 locs1 (cells + mc) (slots + ms) Q (F0 m pc ls rest) q9)
    (kk : ∀ (r : Option Nat) (u : S) (t : State) (H1 : Heap) (locs1 : List Loc), t.heap = H1 → s.vm.Alike t.vm → post r u → B u t → H.size ≤ H1.size → (∀ q : Nat, q < H.size → ¬ A1 q → H1[q]? = H[q]?) → va_S A0 H0 H1 locs1 → W p l e R s m args below meth c H1 locs1 (cells + mc) (slots + ms) Q (F0 m (pc + 3) ls (va_re ad r :: rest))) : W p l e R s m args below meth c H locs cells slots Q (F0 m pc ls st0) := by
  intro T hT X
  rcases hr T hT X with ⟨v, st₀, t, T', L, h0, X', hL, e1, e2, ⟨⟨r, u, hv, hp, hb⟩, hF⟩, st⟩ | ⟨q, st₀, t, T', L, E, ce, h0, X', hL, e1, e2, ⟨u, hp, hb, hF⟩, hce, hcv, hcl, st⟩
  · cases hv
    obtain ⟨k1, k2, k3⟩ := vx_keep h0 e1 hS hA hf hL hF
    obtain ⟨t2, a1, b1⟩ := kk r u t T'.heap (locs ++ L) e1.symm (by rw [← e2]; exact X'.warmed.alike) hp hb k1 k2 k3 T' rfl X'
    exact ⟨t2, st t2 a1, b1⟩
  · obtain ⟨k1, k2, k3⟩ := vx_keep h0 e1 hS hAX hf hL hF
    obtain ⟨t2, a1, b1⟩ := kx E ce q u t T'.heap (locs ++ L) e1.symm (by rw [← e2]; exact X'.warmed.alike) hp hb k1 k2 k3 (by rw [e1]; exact hce) hcv hcl T' rfl X'
    exact ⟨t2, st.trans a1, b1⟩
end
/-! ===== END ===== -/
/-! ===== BEGIN .. by an interface, an object ===== -/
section
variable {p : Program} {l : Launch} {e : Env} {R : Room} {s : State} {m : MethodId} {args : Array Value} {below : List Frame} {meth : Method} {c : Code} {H : Heap} {locs : List Loc} {cells slots : Nat} {Q : State → Prop}
variable {mc ms : Nat} {free : Addr → Prop} {A0 A1 : Nat → Prop} {H0 : Heap} {a : Array Value} {pc : Nat} {ls : Array Slot} {st0 rest : List Value}
theorem vx_callFq {S SX : Type} {post : Option Nat → S → Prop} {px : SX → Prop} {B : S → State → Prop} {BX : String → SX → State → Prop} {AX : Nat → Prop} (hr : vx_Run5 p l e R s m args below meth c H locs cells slots mc ms (F0 m pc ls st0) rest (va_Qq post B A1 a) (vx_X px BX AX) free) (hS : va_S A0 H0 H locs) (hA : ∀ q, q < H.size → A1 q → A0 q) (hf : ∀ q, free q → A0 q) (hAX : ∀ q, q < H.size → AX q → A0 q)
    (kx : ∀ (E : String) (ce : Cell) (q9 : Addr) (u : SX) (t : State) (H1 : Heap) (locs1 : List Loc), t.heap = H1 → s.vm.Alike t.vm → px u → BX E u t → H.size ≤ H1.size → (∀ q : Nat, q < H.size → ¬ AX q → H1[q]? = H[q]?) → va_S A0 H0 H1 locs1 → H1[q9]? = some ce → ce.vm = .none → s.vm.findClass E = some ce.cls → vx_W p l e R s m args below meth c H1 locs1 (cells + mc) (slots + ms) Q (F0 m pc ls rest) q9)
    (kk : ∀ (r : Option Nat) (u : S) (t : State) (H1 : Heap) (locs1 : List Loc), t.heap = H1 → s.vm.Alike t.vm → post r u → B u t → H.size ≤ H1.size → (∀ q : Nat, q < H.size → ¬ A1 q → H1[q]? = H[q]?) → va_S A0 H0 H1 locs1 → W p l e R s m args below meth c H1 locs1 (cells + mc) (slots + ms) Q (F0 m (pc + 5) ls (va_rf r :: rest))) : W p l e R s m args below meth c H locs cells slots Q (F0 m pc ls st0) := by
  intro T hT X
  rcases hr T hT X with ⟨v, st₀, t, T', L, h0, X', hL, e1, e2, ⟨⟨r, u, hv, hp, hb⟩, hF⟩, st⟩ | ⟨q, st₀, t, T', L, E, ce, h0, X', hL, e1, e2, ⟨u, hp, hb, hF⟩, hce, hcv, hcl, st⟩
  · cases hv
    obtain ⟨k1, k2, k3⟩ := vx_keep h0 e1 hS hA hf hL hF
    obtain ⟨t2, a1, b1⟩ := kk r u t T'.heap (locs ++ L) e1.symm (by rw [← e2]; exact X'.warmed.alike) hp hb k1 k2 k3 T' rfl X'
    exact ⟨t2, st t2 a1, b1⟩
  · obtain ⟨k1, k2, k3⟩ := vx_keep h0 e1 hS hAX hf hL hF
    obtain ⟨t2, a1, b1⟩ := kx E ce q u t T'.heap (locs ++ L) e1.symm (by rw [← e2]; exact X'.warmed.alike) hp hb k1 k2 k3 (by rw [e1]; exact hce) hcv hcl T' rfl X'
    exact ⟨t2, st.trans a1, b1⟩
end
/-! ===== END ===== -/
/-! ===== BEGIN .. by an interface, a constant ===== -/
section
variable {p : Program} {l : Launch} {e : Env} {R : Room} {s : State} {m : MethodId} {args : Array Value} {below : List Frame} {meth : Method} {c : Code} {H : Heap} {locs : List Loc} {cells slots : Nat} {Q : State → Prop}
variable {mc ms : Nat} {free : Addr → Prop} {A0 A1 : Nat → Prop} {H0 : Heap} {a : Array Value} {pc : Nat} {ls : Array Slot} {st0 rest : List Value}
theorem vx_callFe {ad : Nat → Nat} {S SX : Type} {post : Option Nat → S → Prop} {px : SX → Prop} {B : S → State → Prop} {BX : String → SX → State → Prop} {AX : Nat → Prop} (hr : vx_Run5 p l e R s m args below meth c H locs cells slots mc ms (F0 m pc ls st0) rest (va_Qe ad post B A1 a) (vx_X px BX AX) free) (hS : va_S A0 H0 H locs) (hA : ∀ q, q < H.size → A1 q → A0 q) (hf : ∀ q, free q → A0 q) (hAX : ∀ q, q < H.size → AX q → A0 q)
    (kx : ∀ (E : String) (ce : Cell) (q9 : Addr) (u : SX) (t : State) (H1 : Heap) (locs1 : List Loc), t.heap = H1 → s.vm.Alike t.vm → px u → BX E u t → H.size ≤ H1.size → (∀ q : Nat, q < H.size → ¬ AX q → H1[q]? = H[q]?) → va_S A0 H0 H1 locs1 → H1[q9]? = some ce → ce.vm = .none → s.vm.findClass E = some ce.cls → vx_W p l e R s m args below meth c H1 locs1 (cells + mc) (slots + ms) Q (F0 m pc ls rest) q9)
    (kk : ∀ (r : Option Nat) (u : S) (t : State) (H1 : Heap) (locs1 : List Loc), t.heap = H1 → s.vm.Alike t.vm → post r u → B u t → H.size ≤ H1.size → (∀ q : Nat, q < H.size → ¬ A1 q → H1[q]? = H[q]?) → va_S A0 H0 H1 locs1 → W p l e R s m args below meth c H1 locs1 (cells + mc) (slots + ms) Q (F0 m (pc + 5) ls (va_re ad r :: rest))) : W p l e R s m args below meth c H locs cells slots Q (F0 m pc ls st0) := by
  intro T hT X
  rcases hr T hT X with ⟨v, st₀, t, T', L, h0, X', hL, e1, e2, ⟨⟨r, u, hv, hp, hb⟩, hF⟩, st⟩ | ⟨q, st₀, t, T', L, E, ce, h0, X', hL, e1, e2, ⟨u, hp, hb, hF⟩, hce, hcv, hcl, st⟩
  · cases hv
    obtain ⟨k1, k2, k3⟩ := vx_keep h0 e1 hS hA hf hL hF
    obtain ⟨t2, a1, b1⟩ := kk r u t T'.heap (locs ++ L) e1.symm (by rw [← e2]; exact X'.warmed.alike) hp hb k1 k2 k3 T' rfl X'
    exact ⟨t2, st t2 a1, b1⟩
  · obtain ⟨k1, k2, k3⟩ := vx_keep h0 e1 hS hAX hf hL hF
    obtain ⟨t2, a1, b1⟩ := kx E ce q u t T'.heap (locs ++ L) e1.symm (by rw [← e2]; exact X'.warmed.alike) hp hb k1 k2 k3 (by rw [e1]; exact hce) hcv hcl T' rfl X'
    exact ⟨t2, st.trans a1, b1⟩
end
/-! ===== END ===== -/
/-! ===== BEGIN what the machine throws by itself: null at a field, at athrow ===== -/
section VXM2
variable {p : Program} {l : Launch} {e : Env} {R : Room} {s : State} {m : MethodId} {args : Array Value} {below : List Frame} {meth : Method} {c : Code} {H : Heap} {locs : List Loc} {cells slots : Nat}
variable {Q : State → Prop} {cc : ByteArray} {pc : Nat} {ls : Array Slot} {rest : List Value}
theorem vx_getfN {D cl tys} {own ref C : String} {T : u_T} {N ci index : Nat} {Ts : List Cond} (hexec : p.tables.exec = Jvm.exec) (hb : c.code = cc) (hts : ∀ w ∈ Ts, w.before args s = true) (hin : ∀ w ∈ u_ws C T N, w ∈ Ts) (hown : s.vm.findClass own = some m.cls) (hK : va_K D cl tys s) (hc : cl[ci]? = some (C, T, N)) (k : Nat) (hk : k < N) (hlink : (Cond.fieldLink own index ref (T k).2.1 (T k).2.2.1).before args s = true) (hsame : ∀ x, s.fieldFound? (T k).1 (T k).2.1 (T k).2.2.1 = some x → s.fieldFound? ref (T k).2.1 (T k).2.2.1 = some x) (hdg : decode cc pc = .ok (.getfield index, 3)) (kk : vx_NoteN p l e R s m args below meth c H locs cells slots Q (F0 m pc ls rest)) : W p l e R s m args below meth c H locs cells slots Q (F0 m pc ls (.null :: rest)) := by
  obtain ⟨hS, hfc, kC, hkC, -⟩ := hK.1 ci _ hc
  obtain ⟨cf, kf, fi, f, hi, -⟩ := hS k hk
  intro U hU X
  obtain ⟨vm', X1, st1⟩ := X.getfieldNull hexec hown hlink (hsame _ hi) (u_facts hfc hkC (u_lays hts hin hk) hi).1 (g := F0 m pc ls (.null :: rest)) rfl (rest := rest) rfl (by rw [hb]; exact hdg)
  obtain ⟨t, st, q⟩ := kk (U.setVm vm') hU X1
  exact ⟨t, st1 t st, q⟩
theorem vx_getfNN {D cl tys} {own ref C host : String} {T : u_T} {N ci index : Nat} {Ts : List Cond} (hexec : p.tables.exec = Jvm.exec) (hb : c.code = cc) (hts : ∀ w ∈ Ts, w.before args s = true) (hin : ∀ w ∈ u_ws C T N, w ∈ Ts) (hown : s.vm.findClass own = some m.cls) (hK : va_K D cl tys s) (hc : cl[ci]? = some (C, T, N)) (k : Nat) (hk : k < N) (hlink : (Cond.fieldLinkNest own index ref (T k).2.1 (T k).2.2.1 host).before args s = true) (hsame : ∀ x, s.fieldFound? (T k).1 (T k).2.1 (T k).2.2.1 = some x → s.fieldFound? ref (T k).2.1 (T k).2.2.1 = some x) (hdg : decode cc pc = .ok (.getfield index, 3)) (kk : vx_NoteN p l e R s m args below meth c H locs cells slots Q (F0 m pc ls rest)) : W p l e R s m args below meth c H locs cells slots Q (F0 m pc ls (.null :: rest)) := by
  obtain ⟨hS, hfc, kC, hkC, -⟩ := hK.1 ci _ hc
  obtain ⟨cf, kf, fi, f, hi, -⟩ := hS k hk
  intro U hU X
  obtain ⟨vm', X1, st1⟩ := X.getfieldNullNest hexec hown hlink (hsame _ hi) (u_facts hfc hkC (u_lays hts hin hk) hi).1 (g := F0 m pc ls (.null :: rest)) rfl (rest := rest) rfl (by rw [hb]; exact hdg)
  obtain ⟨t, st, q⟩ := kk (U.setVm vm') hU X1
  exact ⟨t, st1 t st, q⟩
theorem vx_putfN {D cl tys} {own ref C : String} {T : u_T} {N ci index : Nat} {Ts : List Cond} (hexec : p.tables.exec = Jvm.exec) (hb : c.code = cc) (hts : ∀ w ∈ Ts, w.before args s = true) (hin : ∀ w ∈ u_ws C T N, w ∈ Ts) (hown : s.vm.findClass own = some m.cls) (hK : va_K D cl tys s) (hc : cl[ci]? = some (C, T, N)) (k : Nat) (hk : k < N) (hlink : (Cond.fieldLink own index ref (T k).2.1 (T k).2.2.1).before args s = true) (hsame : ∀ x, s.fieldFound? (T k).1 (T k).2.1 (T k).2.2.1 = some x → s.fieldFound? ref (T k).2.1 (T k).2.2.1 = some x) (hfin : (T k).2.2.2 = false) {v : Value} (hdg : decode cc pc = .ok (.putfield index, 3)) (kk : vx_NoteN p l e R s m args below meth c H locs cells slots Q (F0 m pc ls rest)) : W p l e R s m args below meth c H locs cells slots Q (F0 m pc ls (v :: .null :: rest)) := by
  obtain ⟨hS, hfc, kC, hkC, -⟩ := hK.1 ci _ hc
  obtain ⟨cf, kf, fi, f, hi, -⟩ := hS k hk
  have hlay := hts _ (hin _ (u_in_lay hk))
  unfold u_lay at hlay
  rw [if_neg (by rw [hfin]; decide)] at hlay
  obtain ⟨c9, k9, cf9, kf9, fi9, f9, -, -, hi9, hst9, hnf9, -⟩ := Cond.lays_spec hlay
  cases hi.symm.trans hi9
  intro U hU X
  obtain ⟨vm', X1, st1⟩ := X.putfieldNull hexec hown hlink (hsame _ hi) hst9 hnf9 (g := F0 m pc ls (v :: .null :: rest)) rfl (v := v) (rest := rest) rfl (by rw [hb]; exact hdg)
  obtain ⟨t, st, q⟩ := kk (U.setVm vm') hU X1
  exact ⟨t, st1 t st, q⟩
theorem vx_putfNN {D cl tys} {own ref C host : String} {T : u_T} {N ci index : Nat} {Ts : List Cond} (hexec : p.tables.exec = Jvm.exec) (hb : c.code = cc) (hts : ∀ w ∈ Ts, w.before args s = true) (hin : ∀ w ∈ u_ws C T N, w ∈ Ts) (hown : s.vm.findClass own = some m.cls) (hK : va_K D cl tys s) (hc : cl[ci]? = some (C, T, N)) (k : Nat) (hk : k < N) (hlink : (Cond.fieldLinkNest own index ref (T k).2.1 (T k).2.2.1 host).before args s = true) (hsame : ∀ x, s.fieldFound? (T k).1 (T k).2.1 (T k).2.2.1 = some x → s.fieldFound? ref (T k).2.1 (T k).2.2.1 = some x) (hfin : (T k).2.2.2 = false) {v : Value} (hdg : decode cc pc = .ok (.putfield index, 3)) (kk : vx_NoteN p l e R s m args below meth c H locs cells slots Q (F0 m pc ls rest)) : W p l e R s m args below meth c H locs cells slots Q (F0 m pc ls (v :: .null :: rest)) := by
  obtain ⟨hS, hfc, kC, hkC, -⟩ := hK.1 ci _ hc
  obtain ⟨cf, kf, fi, f, hi, -⟩ := hS k hk
  have hlay := hts _ (hin _ (u_in_lay hk))
  unfold u_lay at hlay
  rw [if_neg (by rw [hfin]; decide)] at hlay
  obtain ⟨c9, k9, cf9, kf9, fi9, f9, -, -, hi9, hst9, hnf9, -⟩ := Cond.lays_spec hlay
  cases hi.symm.trans hi9
  intro U hU X
  obtain ⟨vm', X1, st1⟩ := X.putfieldNullNest hexec hown hlink (hsame _ hi) hst9 hnf9 (g := F0 m pc ls (v :: .null :: rest)) rfl (v := v) (rest := rest) rfl (by rw [hb]; exact hdg)
  obtain ⟨t, st, q⟩ := kk (U.setVm vm') hU X1
  exact ⟨t, st1 t st, q⟩
theorem vx_athrowN (hexec : p.tables.exec = Jvm.exec) (hb : c.code = cc) (hdg : decode cc pc = .ok (.athrow, 1)) (k : vx_NoteN p l e R s m args below meth c H locs cells slots Q (F0 m pc ls rest)) : W p l e R s m args below meth c H locs cells slots Q (F0 m pc ls (.null :: rest)) := by
  intro T hT X
  obtain ⟨t, st, q⟩ := k T hT X
  exact ⟨t, X.athrowNull hexec (g := F0 m pc ls (.null :: rest)) rfl (rest := rest) rfl (by rw [hb]; exact hdg) t st, q⟩
end VXM2
/-! ===== END ===== -/
end
section
def RX0 : String := "CreditLinks$Delivery"
def TX0 : u_T := fun k => match k with
  | 0 => ("CreditLinks$Delivery", "number", "I", true)
  | 1 => ("CreditLinks$Delivery", "link", "I", true)
  | 2 => ("CreditLinks$Delivery", "mode", "I", true)
  | 3 => ("CreditLinks$Delivery", "parts", "I", true)
  | 4 => ("CreditLinks$Delivery", "atSender", "I", false)
  | 5 => ("CreditLinks$Delivery", "outcomeAtSender", "I", false)
  | 6 => ("CreditLinks$Delivery", "atReceiver", "I", false)
  | 7 => ("CreditLinks$Delivery", "beforeParts", "I", false)
  | 8 => ("CreditLinks$Delivery", "nextPart", "I", false)
  | 9 => ("CreditLinks$Delivery", "outcomeAtReceiver", "I", false)
  | 10 => ("CreditLinks$Delivery", "outcomeWaiting", "I", false)
  | _ => ("CreditLinks$Delivery", "effectCount", "I", false)
def tyX0 : Nat → FieldType := fun k => match k with
  | 0 => .int
  | 1 => .int
  | 2 => .int
  | 3 => .int
  | 4 => .int
  | 5 => .int
  | 6 => .int
  | 7 => .int
  | 8 => .int
  | 9 => .int
  | 10 => .int
  | _ => .int
abbrev wsX00 : List Cond := u_ws RX0 TX0 12
theorem nmX0 : ∀ a, a < 12 → ∀ b, b < 12 → a ≠ b → (TX0 a).2.1 ≠ (TX0 b).2.1 := by decide +kernel
theorem tyX0_ok : ∀ k, k < 12 → parseFieldDescriptor (TX0 k).2.2.1 = some (tyX0 k) := by decide +kernel
abbrev cX0_init : ByteArray := prog_2_method_1_code
def yX0_init : MethodName := ⟨RX0, "<init>", "(IIII)V"⟩
abbrev cX0_takePart : ByteArray := prog_2_method_2_code
def yX0_takePart : MethodName := ⟨RX0, "takePart", "(I)Z"⟩
abbrev cX0_takeDecision : ByteArray := prog_2_method_3_code
def yX0_takeDecision : MethodName := ⟨RX0, "takeDecision", "(I)V"⟩
abbrev cX0_forgetDecided : ByteArray := prog_2_method_4_code
def yX0_forgetDecided : MethodName := ⟨RX0, "forgetDecided", "()V"⟩
abbrev cX0_settle : ByteArray := prog_2_method_5_code
def yX0_settle : MethodName := ⟨RX0, "settle", "(I)Z"⟩
abbrev cX0_bringTogether : ByteArray := prog_2_method_6_code
def yX0_bringTogether : MethodName := ⟨RX0, "bringTogether", "()V"⟩
abbrev cX0_goesAnew : ByteArray := prog_2_method_7_code
def yX0_goesAnew : MethodName := ⟨RX0, "goesAnew", "()Z"⟩
def RX1 : String := "CreditLinks$Link"
def TX1 : u_T := fun k => match k with
  | 0 => ("CreditLinks$Link", "mode", "I", false)
  | 1 => ("CreditLinks$Link", "sentCount", "I", false)
  | 2 => ("CreditLinks$Link", "limit", "I", false)
  | _ => ("CreditLinks$Link", "comeCount", "I", false)
def tyX1 : Nat → FieldType := fun k => match k with
  | 0 => .int
  | 1 => .int
  | 2 => .int
  | _ => .int
abbrev wsX10 : List Cond := u_ws RX1 TX1 4
theorem nmX1 : ∀ a, a < 4 → ∀ b, b < 4 → a ≠ b → (TX1 a).2.1 ≠ (TX1 b).2.1 := by decide +kernel
theorem tyX1_ok : ∀ k, k < 4 → parseFieldDescriptor (TX1 k).2.2.1 = some (tyX1 k) := by decide +kernel
abbrev cX1_init : ByteArray := prog_3_method_1_code
def yX1_init : MethodName := ⟨RX1, "<init>", "()V"⟩
abbrev cX1_creditLeft : ByteArray := prog_3_method_2_code
def yX1_creditLeft : MethodName := ⟨RX1, "creditLeft", "()I"⟩
abbrev cX1_countSent : ByteArray := prog_3_method_3_code
def yX1_countSent : MethodName := ⟨RX1, "countSent", "()V"⟩
abbrev cX1_countCome : ByteArray := prog_3_method_4_code
def yX1_countCome : MethodName := ⟨RX1, "countCome", "()V"⟩
abbrev cX1_startAgain : ByteArray := prog_3_method_5_code
def yX1_startAgain : MethodName := ⟨RX1, "startAgain", "()V"⟩
def RX2 : String := "CreditLinks$Row"
def TX2 : u_T := fun k => match k with
  | 0 => ("CreditLinks$Row", "kinds", "[I", true)
  | 1 => ("CreditLinks$Row", "subjects", "[I", true)
  | 2 => ("CreditLinks$Row", "values", "[I", true)
  | 3 => ("CreditLinks$Row", "first", "I", false)
  | _ => ("CreditLinks$Row", "size", "I", false)
def tyX2 : Nat → FieldType := fun k => match k with
  | 0 => .array .int
  | 1 => .array .int
  | 2 => .array .int
  | 3 => .int
  | _ => .int
abbrev wsX20 : List Cond := u_ws RX2 TX2 5
theorem nmX2 : ∀ a, a < 5 → ∀ b, b < 5 → a ≠ b → (TX2 a).2.1 ≠ (TX2 b).2.1 := by decide +kernel
theorem tyX2_ok : ∀ k, k < 5 → parseFieldDescriptor (TX2 k).2.2.1 = some (tyX2 k) := by decide +kernel
abbrev cX2_init : ByteArray := prog_4_method_1_code
def yX2_init : MethodName := ⟨RX2, "<init>", "()V"⟩
abbrev cX2_length : ByteArray := prog_4_method_2_code
def yX2_length : MethodName := ⟨RX2, "length", "()I"⟩
abbrev cX2_add : ByteArray := prog_4_method_3_code
def yX2_add : MethodName := ⟨RX2, "add", "(III)V"⟩
abbrev cX2_firstKind : ByteArray := prog_4_method_4_code
def yX2_firstKind : MethodName := ⟨RX2, "firstKind", "()I"⟩
abbrev cX2_firstSubject : ByteArray := prog_4_method_5_code
def yX2_firstSubject : MethodName := ⟨RX2, "firstSubject", "()I"⟩
abbrev cX2_firstValue : ByteArray := prog_4_method_6_code
def yX2_firstValue : MethodName := ⟨RX2, "firstValue", "()I"⟩
abbrev cX2_dropFirst : ByteArray := prog_4_method_7_code
def yX2_dropFirst : MethodName := ⟨RX2, "dropFirst", "()V"⟩
abbrev cX2_drop : ByteArray := prog_4_method_8_code
def yX2_drop : MethodName := ⟨RX2, "drop", "()V"⟩
def RX3 : String := "CreditLinks"
def TX3 : u_T := fun k => match k with
  | 0 => ("CreditLinks", "links", "[LCreditLinks$Link;", true)
  | 1 => ("CreditLinks", "sent", "Ljava/util/ArrayList;", true)
  | 2 => ("CreditLinks", "forward", "LCreditLinks$Row;", true)
  | 3 => ("CreditLinks", "backward", "LCreditLinks$Row;", true)
  | 4 => ("CreditLinks", "told", "Ljava/util/ArrayList;", true)
  | 5 => ("CreditLinks", "connected", "Z", false)
  | 6 => ("CreditLinks", "inTransaction", "Z", false)
  | _ => ("CreditLinks", "transactions", "I", false)
def tyX3 : Nat → FieldType := fun k => match k with
  | 0 => .array (.object "CreditLinks$Link")
  | 1 => .object "java/util/ArrayList"
  | 2 => .object "CreditLinks$Row"
  | 3 => .object "CreditLinks$Row"
  | 4 => .object "java/util/ArrayList"
  | 5 => .boolean
  | 6 => .boolean
  | _ => .int
abbrev wsX30 : List Cond := u_ws RX3 TX3 8
theorem nmX3 : ∀ a, a < 8 → ∀ b, b < 8 → a ≠ b → (TX3 a).2.1 ≠ (TX3 b).2.1 := by decide +kernel
theorem tyX3_ok : ∀ k, k < 8 → parseFieldDescriptor (TX3 k).2.2.1 = some (tyX3 k) := by decide +kernel
abbrev cX3_init : ByteArray := prog_1_method_1_code
def yX3_init : MethodName := ⟨RX3, "<init>", "()V"⟩
abbrev cX3_setMode : ByteArray := prog_1_method_2_code
def yX3_setMode : MethodName := ⟨RX3, "setMode", "(II)I"⟩
abbrev cX3_grant : ByteArray := prog_1_method_3_code
def yX3_grant : MethodName := ⟨RX3, "grant", "(II)I"⟩
abbrev cX3_credit : ByteArray := prog_1_method_4_code
def yX3_credit : MethodName := ⟨RX3, "credit", "(I)I"⟩
abbrev cX3_send : ByteArray := prog_1_method_5_code
def yX3_send : MethodName := ⟨RX3, "send", "(II)I"⟩
abbrev cX3_toReceiver : ByteArray := prog_1_method_6_code
def yX3_toReceiver : MethodName := ⟨RX3, "toReceiver", "(I)I"⟩
abbrev cX3_toSender : ByteArray := prog_1_method_7_code
def yX3_toSender : MethodName := ⟨RX3, "toSender", "(I)I"⟩
abbrev cX3_decide : ByteArray := prog_1_method_8_code
def yX3_decide : MethodName := ⟨RX3, "decide", "(II)I"⟩
abbrev cX3_deliveries : ByteArray := prog_1_method_9_code
def yX3_deliveries : MethodName := ⟨RX3, "deliveries", "()I"⟩
abbrev cX3_underWay : ByteArray := prog_1_method_10_code
def yX3_underWay : MethodName := ⟨RX3, "underWay", "()I"⟩
abbrev cX3_backUnderWay : ByteArray := prog_1_method_11_code
def yX3_backUnderWay : MethodName := ⟨RX3, "backUnderWay", "()I"⟩
abbrev cX3_forSender : ByteArray := prog_1_method_12_code
def yX3_forSender : MethodName := ⟨RX3, "forSender", "(I)I"⟩
abbrev cX3_heard : ByteArray := prog_1_method_13_code
def yX3_heard : MethodName := ⟨RX3, "heard", "(I)I"⟩
abbrev cX3_forReceiver : ByteArray := prog_1_method_14_code
def yX3_forReceiver : MethodName := ⟨RX3, "forReceiver", "(I)I"⟩
abbrev cX3_effects : ByteArray := prog_1_method_15_code
def yX3_effects : MethodName := ⟨RX3, "effects", "(I)I"⟩
abbrev cX3_breakOff : ByteArray := prog_1_method_16_code
def yX3_breakOff : MethodName := ⟨RX3, "breakOff", "()I"⟩
abbrev cX3_join : ByteArray := prog_1_method_17_code
def yX3_join : MethodName := ⟨RX3, "join", "()I"⟩
abbrev cX3_wouldResend : ByteArray := prog_1_method_18_code
def yX3_wouldResend : MethodName := ⟨RX3, "wouldResend", "()I"⟩
abbrev cX3_isUp : ByteArray := prog_1_method_19_code
def yX3_isUp : MethodName := ⟨RX3, "isUp", "()Z"⟩
abbrev cX3_begin : ByteArray := prog_1_method_20_code
def yX3_begin : MethodName := ⟨RX3, "begin", "()I"⟩
abbrev cX3_tell : ByteArray := prog_1_method_21_code
def yX3_tell : MethodName := ⟨RX3, "tell", "(II)I"⟩
abbrev cX3_end : ByteArray := prog_1_method_22_code
def yX3_end : MethodName := ⟨RX3, "end", "(Z)I"⟩
abbrev cX3_linkAt : ByteArray := prog_1_method_23_code
def yX3_linkAt : MethodName := ⟨RX3, "linkAt", "(I)LCreditLinks$Link;"⟩
abbrev cX3_deliveryAt : ByteArray := prog_1_method_24_code
def yX3_deliveryAt : MethodName := ⟨RX3, "deliveryAt", "(I)LCreditLinks$Delivery;"⟩
abbrev cX3_requireConnection : ByteArray := prog_1_method_25_code
def yX3_requireConnection : MethodName := ⟨RX3, "requireConnection", "()V"⟩
abbrev cX3_requireTransaction : ByteArray := prog_1_method_26_code
def yX3_requireTransaction : MethodName := ⟨RX3, "requireTransaction", "()V"⟩
abbrev cX3_requireUndecided : ByteArray := prog_1_method_27_code
def yX3_requireUndecided : MethodName := ⟨RX3, "requireUndecided", "(LCreditLinks$Delivery;)V"⟩
abbrev cX3_requireOutcome : ByteArray := prog_1_method_28_code
def yX3_requireOutcome : MethodName := ⟨RX3, "requireOutcome", "(I)V"⟩
abbrev cX3_requireCount : ByteArray := prog_1_method_29_code
def yX3_requireCount : MethodName := ⟨RX3, "requireCount", "(I)V"⟩
abbrev cX3_wrapped : ByteArray := prog_1_method_30_code
def yX3_wrapped : MethodName := ⟨RX3, "wrapped", "(I)I"⟩
abbrev cX3_addParts : ByteArray := prog_1_method_31_code
def yX3_addParts : MethodName := ⟨RX3, "addParts", "(LCreditLinks$Delivery;I)V"⟩
abbrev cX3_receiverTakesFrame : ByteArray := prog_1_method_32_code
def yX3_receiverTakesFrame : MethodName := ⟨RX3, "receiverTakesFrame", "()Z"⟩
abbrev cX3_senderTakesFrame : ByteArray := prog_1_method_33_code
def yX3_senderTakesFrame : MethodName := ⟨RX3, "senderTakesFrame", "()Z"⟩
abbrev cX3_carryOut : ByteArray := prog_1_method_34_code
def yX3_carryOut : MethodName := ⟨RX3, "carryOut", "(LCreditLinks$Delivery;I)V"⟩
abbrev cX3_closeTransaction : ByteArray := prog_1_method_35_code
def yX3_closeTransaction : MethodName := ⟨RX3, "closeTransaction", "()V"⟩
def RX4 : String := "CreditLinksModel"
def TX4 : u_T := fun k => match k with
  | 0 => ("CreditLinksModel", "mode", "[I", true)
  | 1 => ("CreditLinksModel", "sent", "[I", true)
  | 2 => ("CreditLinksModel", "limit", "[I", true)
  | 3 => ("CreditLinksModel", "come", "[I", true)
  | 4 => ("CreditLinksModel", "linkOf", "[I", true)
  | 5 => ("CreditLinksModel", "modeOf", "[I", true)
  | 6 => ("CreditLinksModel", "frames", "[I", true)
  | 7 => ("CreditLinksModel", "sender", "[I", true)
  | 8 => ("CreditLinksModel", "heard", "[I", true)
  | 9 => ("CreditLinksModel", "receiver", "[I", true)
  | 10 => ("CreditLinksModel", "parts", "[I", true)
  | 11 => ("CreditLinksModel", "again", "[Z", true)
  | 12 => ("CreditLinksModel", "outcome", "[I", true)
  | 13 => ("CreditLinksModel", "effects", "[I", true)
  | 14 => ("CreditLinksModel", "waits", "[I", true)
  | 15 => ("CreditLinksModel", "deliveries", "I", false)
  | 16 => ("CreditLinksModel", "there", "[I", true)
  | 17 => ("CreditLinksModel", "thereFrom", "I", false)
  | 18 => ("CreditLinksModel", "thereTo", "I", false)
  | 19 => ("CreditLinksModel", "back", "[I", true)
  | 20 => ("CreditLinksModel", "backFrom", "I", false)
  | 21 => ("CreditLinksModel", "backTo", "I", false)
  | 22 => ("CreditLinksModel", "up", "Z", false)
  | 23 => ("CreditLinksModel", "open", "Z", false)
  | 24 => ("CreditLinksModel", "transactions", "I", false)
  | 25 => ("CreditLinksModel", "told", "[I", true)
  | 26 => ("CreditLinksModel", "tolds", "I", false)
  | _ => ("CreditLinksModel", "thrown", "I", false)
def tyX4 : Nat → FieldType := fun k => match k with
  | 0 => .array .int
  | 1 => .array .int
  | 2 => .array .int
  | 3 => .array .int
  | 4 => .array .int
  | 5 => .array .int
  | 6 => .array .int
  | 7 => .array .int
  | 8 => .array .int
  | 9 => .array .int
  | 10 => .array .int
  | 11 => .array .boolean
  | 12 => .array .int
  | 13 => .array .int
  | 14 => .array .int
  | 15 => .int
  | 16 => .array .int
  | 17 => .int
  | 18 => .int
  | 19 => .array .int
  | 20 => .int
  | 21 => .int
  | 22 => .boolean
  | 23 => .boolean
  | 24 => .int
  | 25 => .array .int
  | 26 => .int
  | _ => .int
abbrev wsX40 : List Cond := u_ws RX4 TX4 28
theorem nmX4 : ∀ a, a < 28 → ∀ b, b < 28 → a ≠ b → (TX4 a).2.1 ≠ (TX4 b).2.1 := by decide +kernel
theorem tyX4_ok : ∀ k, k < 28 → parseFieldDescriptor (TX4 k).2.2.1 = some (tyX4 k) := by decide +kernel
abbrev cX4_init : ByteArray := prog_6_method_1_code
def yX4_init : MethodName := ⟨RX4, "<init>", "()V"⟩
abbrev cX4_thrown : ByteArray := prog_6_method_2_code
def yX4_thrown : MethodName := ⟨RX4, "thrown", "()I"⟩
abbrev cX4_in : ByteArray := prog_6_method_3_code
def yX4_in : MethodName := ⟨RX4, "in", "(III)Z"⟩
abbrev cX4_asked : ByteArray := prog_6_method_4_code
def yX4_asked : MethodName := ⟨RX4, "asked", "(Z)Z"⟩
abbrev cX4_asked_ : ByteArray := prog_6_method_5_code
def yX4_asked_ : MethodName := ⟨RX4, "asked", "(ZZ)Z"⟩
abbrev cX4_asked__ : ByteArray := prog_6_method_6_code
def yX4_asked__ : MethodName := ⟨RX4, "asked", "(ZZZ)Z"⟩
abbrev cX4_tells : ByteArray := prog_6_method_7_code
def yX4_tells : MethodName := ⟨RX4, "tells", "(I)I"⟩
abbrev cX4_isLink : ByteArray := prog_6_method_8_code
def yX4_isLink : MethodName := ⟨RX4, "isLink", "(I)Z"⟩
abbrev cX4_isDelivery : ByteArray := prog_6_method_9_code
def yX4_isDelivery : MethodName := ⟨RX4, "isDelivery", "(I)Z"⟩
abbrev cX4_goes : ByteArray := prog_6_method_10_code
def yX4_goes : MethodName := ⟨RX4, "goes", "(I)V"⟩
abbrev cX4_returns : ByteArray := prog_6_method_11_code
def yX4_returns : MethodName := ⟨RX4, "returns", "(I)V"⟩
abbrev cX4_setMode : ByteArray := prog_6_method_12_code
def yX4_setMode : MethodName := ⟨RX4, "setMode", "(II)I"⟩
abbrev cX4_grant : ByteArray := prog_6_method_13_code
def yX4_grant : MethodName := ⟨RX4, "grant", "(II)I"⟩
abbrev cX4_creditOf : ByteArray := prog_6_method_14_code
def yX4_creditOf : MethodName := ⟨RX4, "creditOf", "(I)I"⟩
abbrev cX4_credit : ByteArray := prog_6_method_15_code
def yX4_credit : MethodName := ⟨RX4, "credit", "(I)I"⟩
abbrev cX4_sends : ByteArray := prog_6_method_16_code
def yX4_sends : MethodName := ⟨RX4, "sends", "(II)V"⟩
abbrev cX4_send : ByteArray := prog_6_method_17_code
def yX4_send : MethodName := ⟨RX4, "send", "(II)I"⟩
abbrev cX4_comes : ByteArray := prog_6_method_18_code
def yX4_comes : MethodName := ⟨RX4, "comes", "(IIZ)Z"⟩
abbrev cX4_toReceiver : ByteArray := prog_6_method_19_code
def yX4_toReceiver : MethodName := ⟨RX4, "toReceiver", "(I)I"⟩
abbrev cX4_toSender : ByteArray := prog_6_method_20_code
def yX4_toSender : MethodName := ⟨RX4, "toSender", "(I)I"⟩
abbrev cX4_decides : ByteArray := prog_6_method_21_code
def yX4_decides : MethodName := ⟨RX4, "decides", "(II)V"⟩
abbrev cX4_decide : ByteArray := prog_6_method_22_code
def yX4_decide : MethodName := ⟨RX4, "decide", "(II)I"⟩
abbrev cX4_deliveries : ByteArray := prog_6_method_23_code
def yX4_deliveries : MethodName := ⟨RX4, "deliveries", "()I"⟩
abbrev cX4_underWay : ByteArray := prog_6_method_24_code
def yX4_underWay : MethodName := ⟨RX4, "underWay", "()I"⟩
abbrev cX4_backUnderWay : ByteArray := prog_6_method_25_code
def yX4_backUnderWay : MethodName := ⟨RX4, "backUnderWay", "()I"⟩
abbrev cX4_forSender : ByteArray := prog_6_method_26_code
def yX4_forSender : MethodName := ⟨RX4, "forSender", "(I)I"⟩
abbrev cX4_heard : ByteArray := prog_6_method_27_code
def yX4_heard : MethodName := ⟨RX4, "heard", "(I)I"⟩
abbrev cX4_forReceiver : ByteArray := prog_6_method_28_code
def yX4_forReceiver : MethodName := ⟨RX4, "forReceiver", "(I)I"⟩
abbrev cX4_effects : ByteArray := prog_6_method_29_code
def yX4_effects : MethodName := ⟨RX4, "effects", "(I)I"⟩
abbrev cX4_drops : ByteArray := prog_6_method_30_code
def yX4_drops : MethodName := ⟨RX4, "drops", "()V"⟩
abbrev cX4_breakOff : ByteArray := prog_6_method_31_code
def yX4_breakOff : MethodName := ⟨RX4, "breakOff", "()I"⟩
abbrev cX4_isSentAnew : ByteArray := prog_6_method_32_code
def yX4_isSentAnew : MethodName := ⟨RX4, "isSentAnew", "(I)Z"⟩
abbrev cX4_join : ByteArray := prog_6_method_33_code
def yX4_join : MethodName := ⟨RX4, "join", "()I"⟩
abbrev cX4_wouldResend : ByteArray := prog_6_method_34_code
def yX4_wouldResend : MethodName := ⟨RX4, "wouldResend", "()I"⟩
abbrev cX4_isUp : ByteArray := prog_6_method_35_code
def yX4_isUp : MethodName := ⟨RX4, "isUp", "()Z"⟩
abbrev cX4_begin : ByteArray := prog_6_method_36_code
def yX4_begin : MethodName := ⟨RX4, "begin", "()I"⟩
abbrev cX4_tell : ByteArray := prog_6_method_37_code
def yX4_tell : MethodName := ⟨RX4, "tell", "(II)I"⟩
abbrev cX4_end : ByteArray := prog_6_method_38_code
def yX4_end : MethodName := ⟨RX4, "end", "(Z)I"⟩
def RJx145de : String := "java/io/Serializable"
def TJx145de : u_T := fun k => match k with
  | _ => ("", "", "", false)
def tyJx145de : Nat → FieldType := fun k => match k with
  | _ => .int
abbrev wsJx145de0 : List Cond := u_ws RJx145de TJx145de 0
theorem nmJx145de : ∀ a, a < 0 → ∀ b, b < 0 → a ≠ b → (TJx145de a).2.1 ≠ (TJx145de b).2.1 := by decide +kernel
theorem tyJx145de_ok : ∀ k, k < 0 → parseFieldDescriptor (TJx145de k).2.2.1 = some (tyJx145de k) := by decide +kernel
def RJx8e188 : String := "java/lang/Cloneable"
def TJx8e188 : u_T := fun k => match k with
  | _ => ("", "", "", false)
def tyJx8e188 : Nat → FieldType := fun k => match k with
  | _ => .int
abbrev wsJx8e1880 : List Cond := u_ws RJx8e188 TJx8e188 0
theorem nmJx8e188 : ∀ a, a < 0 → ∀ b, b < 0 → a ≠ b → (TJx8e188 a).2.1 ≠ (TJx8e188 b).2.1 := by decide +kernel
theorem tyJx8e188_ok : ∀ k, k < 0 → parseFieldDescriptor (TJx8e188 k).2.2.1 = some (tyJx8e188 k) := by decide +kernel
def RJxab1ab : String := "java/lang/Iterable"
def TJxab1ab : u_T := fun k => match k with
  | _ => ("", "", "", false)
def tyJxab1ab : Nat → FieldType := fun k => match k with
  | _ => .int
abbrev wsJxab1ab0 : List Cond := u_ws RJxab1ab TJxab1ab 0
theorem nmJxab1ab : ∀ a, a < 0 → ∀ b, b < 0 → a ≠ b → (TJxab1ab a).2.1 ≠ (TJxab1ab b).2.1 := by decide +kernel
theorem tyJxab1ab_ok : ∀ k, k < 0 → parseFieldDescriptor (TJxab1ab k).2.2.1 = some (tyJxab1ab k) := by decide +kernel
def RJ9 : String := "java/lang/Math"
def TJ9 : u_T := fun k => match k with
  | _ => ("", "", "", false)
def tyJ9 : Nat → FieldType := fun k => match k with
  | _ => .int
abbrev wsJ90 : List Cond := u_ws RJ9 TJ9 0
theorem nmJ9 : ∀ a, a < 0 → ∀ b, b < 0 → a ≠ b → (TJ9 a).2.1 ≠ (TJ9 b).2.1 := by decide +kernel
theorem tyJ9_ok : ∀ k, k < 0 → parseFieldDescriptor (TJ9 k).2.2.1 = some (tyJ9 k) := by decide +kernel
abbrev cJ9_floorMod_7cf53 : ByteArray := prog_14_method_50_code
def yJ9_floorMod_7cf53 : MethodName := ⟨RJ9, "floorMod", "(II)I"⟩
abbrev cJ9_max_7cf53 : ByteArray := prog_14_method_65_code
def yJ9_max_7cf53 : MethodName := ⟨RJ9, "max", "(II)I"⟩
abbrev cJ9_min_7cf53 : ByteArray := prog_14_method_69_code
def yJ9_min_7cf53 : MethodName := ⟨RJ9, "min", "(II)I"⟩
def RJ0 : String := "java/lang/String"
def TJ0 : u_T := fun k => match k with
  | _ => ("", "", "", false)
def tyJ0 : Nat → FieldType := fun k => match k with
  | _ => .int
abbrev wsJ00 : List Cond := u_ws RJ0 TJ0 0
theorem nmJ0 : ∀ a, a < 0 → ∀ b, b < 0 → a ≠ b → (TJ0 a).2.1 ≠ (TJ0 b).2.1 := by decide +kernel
theorem tyJ0_ok : ∀ k, k < 0 → parseFieldDescriptor (TJ0 k).2.2.1 = some (tyJ0 k) := by decide +kernel
def RJ10 : String := "java/lang/System"
def TJ10 : u_T := fun k => match k with
  | _ => ("", "", "", false)
def tyJ10 : Nat → FieldType := fun k => match k with
  | _ => .int
abbrev wsJ100 : List Cond := u_ws RJ10 TJ10 0
theorem nmJ10 : ∀ a, a < 0 → ∀ b, b < 0 → a ≠ b → (TJ10 a).2.1 ≠ (TJ10 b).2.1 := by decide +kernel
theorem tyJ10_ok : ∀ k, k < 0 → parseFieldDescriptor (TJ10 k).2.2.1 = some (tyJ10 k) := by decide +kernel
def RJxa1e45 : String := "java/util/AbstractCollection"
def TJxa1e45 : u_T := fun k => match k with
  | _ => ("", "", "", false)
def tyJxa1e45 : Nat → FieldType := fun k => match k with
  | _ => .int
abbrev wsJxa1e450 : List Cond := u_ws RJxa1e45 TJxa1e45 0
theorem nmJxa1e45 : ∀ a, a < 0 → ∀ b, b < 0 → a ≠ b → (TJxa1e45 a).2.1 ≠ (TJxa1e45 b).2.1 := by decide +kernel
theorem tyJxa1e45_ok : ∀ k, k < 0 → parseFieldDescriptor (TJxa1e45 k).2.2.1 = some (tyJxa1e45 k) := by decide +kernel
abbrev cJxa1e45_init_da8c8 : ByteArray := prog_19_method_1_code
def yJxa1e45_init_da8c8 : MethodName := ⟨RJxa1e45, "<init>", "()V"⟩
def RJxc12de : String := "java/util/AbstractList"
def TJxc12de : u_T := fun k => match k with
  | _ => ("", "", "", false)
def tyJxc12de : Nat → FieldType := fun k => match k with
  | _ => .int
abbrev wsJxc12de0 : List Cond := u_ws RJxc12de TJxc12de 0
theorem nmJxc12de : ∀ a, a < 0 → ∀ b, b < 0 → a ≠ b → (TJxc12de a).2.1 ≠ (TJxc12de b).2.1 := by decide +kernel
theorem tyJxc12de_ok : ∀ k, k < 0 → parseFieldDescriptor (TJxc12de k).2.2.1 = some (tyJxc12de k) := by decide +kernel
abbrev cJxc12de_init_da8c8 : ByteArray := prog_20_method_1_code
def yJxc12de_init_da8c8 : MethodName := ⟨RJxc12de, "<init>", "()V"⟩
def RJx4a65c : String := "java/util/ArrayList"
def TJx4a65c : u_T := fun k => match k with
  | 0 => ("java/util/AbstractList", "modCount", "I", false)
  | 1 => ("java/util/ArrayList", "elementData", "[Ljava/lang/Object;", false)
  | _ => ("java/util/ArrayList", "size", "I", false)
def tyJx4a65c : Nat → FieldType := fun k => match k with
  | 0 => .int
  | 1 => .array (.object "java/lang/Object")
  | _ => .int
abbrev wsJx4a65c0 : List Cond := u_ws RJx4a65c TJx4a65c 3
theorem nmJx4a65c : ∀ a, a < 3 → ∀ b, b < 3 → a ≠ b → (TJx4a65c a).2.1 ≠ (TJx4a65c b).2.1 := by decide +kernel
theorem tyJx4a65c_ok : ∀ k, k < 3 → parseFieldDescriptor (TJx4a65c k).2.2.1 = some (tyJx4a65c k) := by decide +kernel
abbrev cJx4a65c_init_da8c8 : ByteArray := prog_21_method_2_code
def yJx4a65c_init_da8c8 : MethodName := ⟨RJx4a65c, "<init>", "()V"⟩
abbrev cJx4a65c_grow_92f84 : ByteArray := prog_21_method_6_code
def yJx4a65c_grow_92f84 : MethodName := ⟨RJx4a65c, "grow", "(I)[Ljava/lang/Object;"⟩
abbrev cJx4a65c_grow_d5877 : ByteArray := prog_21_method_7_code
def yJx4a65c_grow_d5877 : MethodName := ⟨RJx4a65c, "grow", "()[Ljava/lang/Object;"⟩
abbrev cJx4a65c_size_8abf5 : ByteArray := prog_21_method_8_code
def yJx4a65c_size_8abf5 : MethodName := ⟨RJx4a65c, "size", "()I"⟩
abbrev cJx4a65c_elementData_915e3 : ByteArray := prog_21_method_18_code
def yJx4a65c_elementData_915e3 : MethodName := ⟨RJx4a65c, "elementData", "(I)Ljava/lang/Object;"⟩
abbrev cJx4a65c_get_915e3 : ByteArray := prog_21_method_20_code
def yJx4a65c_get_915e3 : MethodName := ⟨RJx4a65c, "get", "(I)Ljava/lang/Object;"⟩
abbrev cJx4a65c_add_72be8 : ByteArray := prog_21_method_24_code
def yJx4a65c_add_72be8 : MethodName := ⟨RJx4a65c, "add", "(Ljava/lang/Object;[Ljava/lang/Object;I)V"⟩
abbrev cJx4a65c_add_9ea2d : ByteArray := prog_21_method_25_code
def yJx4a65c_add_9ea2d : MethodName := ⟨RJx4a65c, "add", "(Ljava/lang/Object;)Z"⟩
abbrev cJx4a65c_clear_da8c8 : ByteArray := prog_21_method_40_code
def yJx4a65c_clear_da8c8 : MethodName := ⟨RJx4a65c, "clear", "()V"⟩
def RJ7 : String := "java/util/Arrays"
def TJ7 : u_T := fun k => match k with
  | _ => ("", "", "", false)
def tyJ7 : Nat → FieldType := fun k => match k with
  | _ => .int
abbrev wsJ70 : List Cond := u_ws RJ7 TJ7 0
theorem nmJ7 : ∀ a, a < 0 → ∀ b, b < 0 → a ≠ b → (TJ7 a).2.1 ≠ (TJ7 b).2.1 := by decide +kernel
theorem tyJ7_ok : ∀ k, k < 0 → parseFieldDescriptor (TJ7 k).2.2.1 = some (tyJ7 k) := by decide +kernel
abbrev cJ7_copyOf_1904c : ByteArray := prog_22_method_119_code
def yJ7_copyOf_1904c : MethodName := ⟨RJ7, "copyOf", "([Ljava/lang/Object;I)[Ljava/lang/Object;"⟩
abbrev cJ7_copyOf_6403c : ByteArray := prog_22_method_120_code
def yJ7_copyOf_6403c : MethodName := ⟨RJ7, "copyOf", "([Ljava/lang/Object;ILjava/lang/Class;)[Ljava/lang/Object;"⟩
def RJx5ef63 : String := "java/util/Collection"
def TJx5ef63 : u_T := fun k => match k with
  | _ => ("", "", "", false)
def tyJx5ef63 : Nat → FieldType := fun k => match k with
  | _ => .int
abbrev wsJx5ef630 : List Cond := u_ws RJx5ef63 TJx5ef63 0
theorem nmJx5ef63 : ∀ a, a < 0 → ∀ b, b < 0 → a ≠ b → (TJx5ef63 a).2.1 ≠ (TJx5ef63 b).2.1 := by decide +kernel
theorem tyJx5ef63_ok : ∀ k, k < 0 → parseFieldDescriptor (TJx5ef63 k).2.2.1 = some (tyJx5ef63 k) := by decide +kernel
def RJxbd725 : String := "java/util/List"
def TJxbd725 : u_T := fun k => match k with
  | _ => ("", "", "", false)
def tyJxbd725 : Nat → FieldType := fun k => match k with
  | _ => .int
abbrev wsJxbd7250 : List Cond := u_ws RJxbd725 TJxbd725 0
theorem nmJxbd725 : ∀ a, a < 0 → ∀ b, b < 0 → a ≠ b → (TJxbd725 a).2.1 ≠ (TJxbd725 b).2.1 := by decide +kernel
theorem tyJxbd725_ok : ∀ k, k < 0 → parseFieldDescriptor (TJxbd725 k).2.2.1 = some (tyJxbd725 k) := by decide +kernel
def RJ15 : String := "java/util/Objects"
def TJ15 : u_T := fun k => match k with
  | _ => ("", "", "", false)
def tyJ15 : Nat → FieldType := fun k => match k with
  | _ => .int
abbrev wsJ150 : List Cond := u_ws RJ15 TJ15 0
theorem nmJ15 : ∀ a, a < 0 → ∀ b, b < 0 → a ≠ b → (TJ15 a).2.1 ≠ (TJ15 b).2.1 := by decide +kernel
theorem tyJ15_ok : ∀ k, k < 0 → parseFieldDescriptor (TJ15 k).2.2.1 = some (tyJ15 k) := by decide +kernel
abbrev cJ15_checkIndex_7cf53 : ByteArray := prog_25_method_17_code
def yJ15_checkIndex_7cf53 : MethodName := ⟨RJ15, "checkIndex", "(II)I"⟩
def RJxf0a74 : String := "java/util/RandomAccess"
def TJxf0a74 : u_T := fun k => match k with
  | _ => ("", "", "", false)
def tyJxf0a74 : Nat → FieldType := fun k => match k with
  | _ => .int
abbrev wsJxf0a740 : List Cond := u_ws RJxf0a74 TJxf0a74 0
theorem nmJxf0a74 : ∀ a, a < 0 → ∀ b, b < 0 → a ≠ b → (TJxf0a74 a).2.1 ≠ (TJxf0a74 b).2.1 := by decide +kernel
theorem tyJxf0a74_ok : ∀ k, k < 0 → parseFieldDescriptor (TJxf0a74 k).2.2.1 = some (tyJxf0a74 k) := by decide +kernel
def RJxa66e6 : String := "java/util/SequencedCollection"
def TJxa66e6 : u_T := fun k => match k with
  | _ => ("", "", "", false)
def tyJxa66e6 : Nat → FieldType := fun k => match k with
  | _ => .int
abbrev wsJxa66e60 : List Cond := u_ws RJxa66e6 TJxa66e6 0
theorem nmJxa66e6 : ∀ a, a < 0 → ∀ b, b < 0 → a ≠ b → (TJxa66e6 a).2.1 ≠ (TJxa66e6 b).2.1 := by decide +kernel
theorem tyJxa66e6_ok : ∀ k, k < 0 → parseFieldDescriptor (TJxa66e6 k).2.2.1 = some (tyJxa66e6 k) := by decide +kernel
def RJ8 : String := "jdk/internal/util/ArraysSupport"
def TJ8 : u_T := fun k => match k with
  | _ => ("", "", "", false)
def tyJ8 : Nat → FieldType := fun k => match k with
  | _ => .int
abbrev wsJ80 : List Cond := u_ws RJ8 TJ8 0
theorem nmJ8 : ∀ a, a < 0 → ∀ b, b < 0 → a ≠ b → (TJ8 a).2.1 ≠ (TJ8 b).2.1 := by decide +kernel
theorem tyJ8_ok : ∀ k, k < 0 → parseFieldDescriptor (TJ8 k).2.2.1 = some (tyJ8 k) := by decide +kernel
abbrev cJ8_newLength_cabcc : ByteArray := prog_28_method_27_code
def yJ8_newLength_cabcc : MethodName := ⟨RJ8, "newLength", "(III)I"⟩
abbrev cJ8_hugeLength_7cf53 : ByteArray := prog_28_method_28_code
def yJ8_hugeLength_7cf53 : MethodName := ⟨RJ8, "hugeLength", "(II)I"⟩
def RJ3 : String := "jdk/internal/util/Preconditions"
def TJ3 : u_T := fun k => match k with
  | _ => ("", "", "", false)
def tyJ3 : Nat → FieldType := fun k => match k with
  | _ => .int
abbrev wsJ30 : List Cond := u_ws RJ3 TJ3 0
theorem nmJ3 : ∀ a, a < 0 → ∀ b, b < 0 → a ≠ b → (TJ3 a).2.1 ≠ (TJ3 b).2.1 := by decide +kernel
theorem tyJ3_ok : ∀ k, k < 0 → parseFieldDescriptor (TJ3 k).2.2.1 = some (tyJ3 k) := by decide +kernel
abbrev cJ3_checkIndex_8e157 : ByteArray := prog_29_method_11_code
def yJ3_checkIndex_8e157 : MethodName := ⟨RJ3, "checkIndex", "(IILjava/util/function/BiFunction;)I"⟩
def RL : String := "CreditLinksLaw"
abbrev cL_setMode : ByteArray := method_3_code
def yL_setMode : MethodName := ⟨RL, "setMode", "(LCreditLinks;II[J)I"⟩
abbrev cL_grant : ByteArray := method_4_code
def yL_grant : MethodName := ⟨RL, "grant", "(LCreditLinks;II[J)I"⟩
abbrev cL_credit : ByteArray := method_5_code
def yL_credit : MethodName := ⟨RL, "credit", "(LCreditLinks;I[J)I"⟩
abbrev cL_send : ByteArray := method_6_code
def yL_send : MethodName := ⟨RL, "send", "(LCreditLinks;II[J)I"⟩
abbrev cL_toReceiver : ByteArray := method_7_code
def yL_toReceiver : MethodName := ⟨RL, "toReceiver", "(LCreditLinks;I[J)I"⟩
abbrev cL_toSender : ByteArray := method_8_code
def yL_toSender : MethodName := ⟨RL, "toSender", "(LCreditLinks;I[J)I"⟩
abbrev cL_decide : ByteArray := method_9_code
def yL_decide : MethodName := ⟨RL, "decide", "(LCreditLinks;II[J)I"⟩
abbrev cL_forSender : ByteArray := method_10_code
def yL_forSender : MethodName := ⟨RL, "forSender", "(LCreditLinks;I[J)I"⟩
abbrev cL_heard : ByteArray := method_11_code
def yL_heard : MethodName := ⟨RL, "heard", "(LCreditLinks;I[J)I"⟩
abbrev cL_forReceiver : ByteArray := method_12_code
def yL_forReceiver : MethodName := ⟨RL, "forReceiver", "(LCreditLinks;I[J)I"⟩
abbrev cL_effects : ByteArray := method_13_code
def yL_effects : MethodName := ⟨RL, "effects", "(LCreditLinks;I[J)I"⟩
abbrev cL_breakOff : ByteArray := method_14_code
def yL_breakOff : MethodName := ⟨RL, "breakOff", "(LCreditLinks;[J)I"⟩
abbrev cL_join : ByteArray := method_15_code
def yL_join : MethodName := ⟨RL, "join", "(LCreditLinks;[J)I"⟩
abbrev cL_begin : ByteArray := method_16_code
def yL_begin : MethodName := ⟨RL, "begin", "(LCreditLinks;[J)I"⟩
abbrev cL_tell : ByteArray := method_17_code
def yL_tell : MethodName := ⟨RL, "tell", "(LCreditLinks;II[J)I"⟩
abbrev cL_end : ByteArray := method_18_code
def yL_end : MethodName := ⟨RL, "end", "(LCreditLinks;Z[J)I"⟩
abbrev cL_law : ByteArray := code
def yL_law : MethodName := ⟨RL, "law", "([I)Z"⟩
abbrev vwCl : List vw_C := [(RJx4a65c, TJx4a65c, 3), (RX0, TX0, 12), (RX1, TX1, 4), (RX2, TX2, 5), (RX3, TX3, 8), (RX4, TX4, 28)]
end
section
theorem dX0_init_0 : decode cX0_init 0 = .ok (.aload_n 0, 1) := by decide +kernel
theorem dX0_init_1 : decode cX0_init 1 = .ok (.invokespecial 3, 3) := by decide +kernel
theorem dX0_init_4 : decode cX0_init 4 = .ok (.aload_n 0, 1) := by decide +kernel
theorem dX0_init_5 : decode cX0_init 5 = .ok (.iconst (-1), 1) := by decide +kernel
theorem dX0_init_6 : decode cX0_init 6 = .ok (.putfield 9, 3) := by decide +kernel
theorem dX0_init_9 : decode cX0_init 9 = .ok (.aload_n 0, 1) := by decide +kernel
theorem dX0_init_10 : decode cX0_init 10 = .ok (.iconst 0, 1) := by decide +kernel
theorem dX0_init_11 : decode cX0_init 11 = .ok (.putfield 15, 3) := by decide +kernel
theorem dX0_init_14 : decode cX0_init 14 = .ok (.aload_n 0, 1) := by decide +kernel
theorem dX0_init_15 : decode cX0_init 15 = .ok (.iconst 0, 1) := by decide +kernel
theorem dX0_init_16 : decode cX0_init 16 = .ok (.putfield 18, 3) := by decide +kernel
theorem dX0_init_19 : decode cX0_init 19 = .ok (.aload_n 0, 1) := by decide +kernel
theorem dX0_init_20 : decode cX0_init 20 = .ok (.iconst 0, 1) := by decide +kernel
theorem dX0_init_21 : decode cX0_init 21 = .ok (.putfield 21, 3) := by decide +kernel
theorem dX0_init_24 : decode cX0_init 24 = .ok (.aload_n 0, 1) := by decide +kernel
theorem dX0_init_25 : decode cX0_init 25 = .ok (.iconst (-1), 1) := by decide +kernel
theorem dX0_init_26 : decode cX0_init 26 = .ok (.putfield 24, 3) := by decide +kernel
theorem dX0_init_29 : decode cX0_init 29 = .ok (.aload_n 0, 1) := by decide +kernel
theorem dX0_init_30 : decode cX0_init 30 = .ok (.iconst (-1), 1) := by decide +kernel
theorem dX0_init_31 : decode cX0_init 31 = .ok (.putfield 27, 3) := by decide +kernel
theorem dX0_init_34 : decode cX0_init 34 = .ok (.aload_n 0, 1) := by decide +kernel
theorem dX0_init_35 : decode cX0_init 35 = .ok (.iconst 0, 1) := by decide +kernel
theorem dX0_init_36 : decode cX0_init 36 = .ok (.putfield 30, 3) := by decide +kernel
theorem dX0_init_39 : decode cX0_init 39 = .ok (.aload_n 0, 1) := by decide +kernel
theorem dX0_init_40 : decode cX0_init 40 = .ok (.iload_n 1, 1) := by decide +kernel
theorem dX0_init_41 : decode cX0_init 41 = .ok (.putfield 33, 3) := by decide +kernel
theorem dX0_init_44 : decode cX0_init 44 = .ok (.aload_n 0, 1) := by decide +kernel
theorem dX0_init_45 : decode cX0_init 45 = .ok (.iload_n 2, 1) := by decide +kernel
theorem dX0_init_46 : decode cX0_init 46 = .ok (.putfield 36, 3) := by decide +kernel
theorem dX0_init_49 : decode cX0_init 49 = .ok (.aload_n 0, 1) := by decide +kernel
theorem dX0_init_50 : decode cX0_init 50 = .ok (.iload_n 3, 1) := by decide +kernel
theorem dX0_init_51 : decode cX0_init 51 = .ok (.putfield 39, 3) := by decide +kernel
theorem dX0_init_54 : decode cX0_init 54 = .ok (.aload_n 0, 1) := by decide +kernel
theorem dX0_init_55 : decode cX0_init 55 = .ok (.iload 4, 2) := by decide +kernel
theorem dX0_init_57 : decode cX0_init 57 = .ok (.putfield 42, 3) := by decide +kernel
theorem dX0_init_60 : decode cX0_init 60 = .ok (.aload_n 0, 1) := by decide +kernel
theorem dX0_init_61 : decode cX0_init 61 = .ok (.iload_n 3, 1) := by decide +kernel
theorem dX0_init_62 : decode cX0_init 62 = .ok (.ifCond .ne 7, 3) := by decide +kernel
theorem dX0_init_65 : decode cX0_init 65 = .ok (.iconst 1, 1) := by decide +kernel
theorem dX0_init_66 : decode cX0_init 66 = .ok (.goto 4, 3) := by decide +kernel
theorem dX0_init_69 : decode cX0_init 69 = .ok (.iconst 0, 1) := by decide +kernel
theorem dX0_init_70 : decode cX0_init 70 = .ok (.putfield 45, 3) := by decide +kernel
theorem dX0_init_73 : decode cX0_init 73 = .ok (.return_, 1) := by decide +kernel
theorem dX0_takePart_0 : decode cX0_takePart 0 = .ok (.aload_n 0, 1) := by decide +kernel
theorem dX0_takePart_1 : decode cX0_takePart 1 = .ok (.getfield 15, 3) := by decide +kernel
theorem dX0_takePart_4 : decode cX0_takePart 4 = .ok (.ifCond .eq 11, 3) := by decide +kernel
theorem dX0_takePart_7 : decode cX0_takePart 7 = .ok (.aload_n 0, 1) := by decide +kernel
theorem dX0_takePart_8 : decode cX0_takePart 8 = .ok (.getfield 15, 3) := by decide +kernel
theorem dX0_takePart_11 : decode cX0_takePart 11 = .ok (.iconst 4, 1) := by decide +kernel
theorem dX0_takePart_12 : decode cX0_takePart 12 = .ok (.if_icmp .ne 7, 3) := by decide +kernel
theorem dX0_takePart_15 : decode cX0_takePart 15 = .ok (.iconst 1, 1) := by decide +kernel
theorem dX0_takePart_16 : decode cX0_takePart 16 = .ok (.goto 4, 3) := by decide +kernel
theorem dX0_takePart_19 : decode cX0_takePart 19 = .ok (.iconst 0, 1) := by decide +kernel
theorem dX0_takePart_20 : decode cX0_takePart 20 = .ok (.istore_n 2, 1) := by decide +kernel
theorem dX0_takePart_21 : decode cX0_takePart 21 = .ok (.iload_n 2, 1) := by decide +kernel
theorem dX0_takePart_22 : decode cX0_takePart 22 = .ok (.ifCond .eq 15, 3) := by decide +kernel
theorem dX0_takePart_25 : decode cX0_takePart 25 = .ok (.iload_n 1, 1) := by decide +kernel
theorem dX0_takePart_26 : decode cX0_takePart 26 = .ok (.ifCond .ne 7, 3) := by decide +kernel
theorem dX0_takePart_29 : decode cX0_takePart 29 = .ok (.iconst 1, 1) := by decide +kernel
theorem dX0_takePart_30 : decode cX0_takePart 30 = .ok (.goto 28, 3) := by decide +kernel
theorem dX0_takePart_33 : decode cX0_takePart 33 = .ok (.iconst 0, 1) := by decide +kernel
theorem dX0_takePart_34 : decode cX0_takePart 34 = .ok (.goto 24, 3) := by decide +kernel
theorem dX0_takePart_37 : decode cX0_takePart 37 = .ok (.aload_n 0, 1) := by decide +kernel
theorem dX0_takePart_38 : decode cX0_takePart 38 = .ok (.getfield 15, 3) := by decide +kernel
theorem dX0_takePart_41 : decode cX0_takePart 41 = .ok (.iconst 1, 1) := by decide +kernel
theorem dX0_takePart_42 : decode cX0_takePart 42 = .ok (.if_icmp .ne 15, 3) := by decide +kernel
theorem dX0_takePart_45 : decode cX0_takePart 45 = .ok (.iload_n 1, 1) := by decide +kernel
theorem dX0_takePart_46 : decode cX0_takePart 46 = .ok (.aload_n 0, 1) := by decide +kernel
theorem dX0_takePart_47 : decode cX0_takePart 47 = .ok (.getfield 21, 3) := by decide +kernel
theorem dX0_takePart_50 : decode cX0_takePart 50 = .ok (.if_icmp .ne 7, 3) := by decide +kernel
theorem dX0_takePart_53 : decode cX0_takePart 53 = .ok (.iconst 1, 1) := by decide +kernel
theorem dX0_takePart_54 : decode cX0_takePart 54 = .ok (.goto 4, 3) := by decide +kernel
theorem dX0_takePart_57 : decode cX0_takePart 57 = .ok (.iconst 0, 1) := by decide +kernel
theorem dX0_takePart_58 : decode cX0_takePart 58 = .ok (.istore_n 3, 1) := by decide +kernel
theorem dX0_takePart_59 : decode cX0_takePart 59 = .ok (.iload_n 3, 1) := by decide +kernel
theorem dX0_takePart_60 : decode cX0_takePart 60 = .ok (.ifCond .ne 5, 3) := by decide +kernel
theorem dX0_takePart_63 : decode cX0_takePart 63 = .ok (.iconst 0, 1) := by decide +kernel
theorem dX0_takePart_64 : decode cX0_takePart 64 = .ok (.ireturn, 1) := by decide +kernel
theorem dX0_takePart_65 : decode cX0_takePart 65 = .ok (.iload_n 2, 1) := by decide +kernel
theorem dX0_takePart_66 : decode cX0_takePart 66 = .ok (.ifCond .eq 11, 3) := by decide +kernel
theorem dX0_takePart_69 : decode cX0_takePart 69 = .ok (.aload_n 0, 1) := by decide +kernel
theorem dX0_takePart_70 : decode cX0_takePart 70 = .ok (.aload_n 0, 1) := by decide +kernel
theorem dX0_takePart_71 : decode cX0_takePart 71 = .ok (.getfield 15, 3) := by decide +kernel
theorem dX0_takePart_74 : decode cX0_takePart 74 = .ok (.putfield 18, 3) := by decide +kernel
theorem dX0_takePart_77 : decode cX0_takePart 77 = .ok (.aload_n 0, 1) := by decide +kernel
theorem dX0_takePart_78 : decode cX0_takePart 78 = .ok (.iload_n 1, 1) := by decide +kernel
theorem dX0_takePart_79 : decode cX0_takePart 79 = .ok (.iconst 1, 1) := by decide +kernel
theorem dX0_takePart_80 : decode cX0_takePart 80 = .ok (.iadd, 1) := by decide +kernel
theorem dX0_takePart_81 : decode cX0_takePart 81 = .ok (.putfield 21, 3) := by decide +kernel
theorem dX0_takePart_84 : decode cX0_takePart 84 = .ok (.aload_n 0, 1) := by decide +kernel
theorem dX0_takePart_85 : decode cX0_takePart 85 = .ok (.aload_n 0, 1) := by decide +kernel
theorem dX0_takePart_86 : decode cX0_takePart 86 = .ok (.getfield 21, 3) := by decide +kernel
theorem dX0_takePart_89 : decode cX0_takePart 89 = .ok (.aload_n 0, 1) := by decide +kernel
theorem dX0_takePart_90 : decode cX0_takePart 90 = .ok (.getfield 42, 3) := by decide +kernel
theorem dX0_takePart_93 : decode cX0_takePart 93 = .ok (.if_icmp .ne 7, 3) := by decide +kernel
theorem dX0_takePart_96 : decode cX0_takePart 96 = .ok (.iconst 2, 1) := by decide +kernel
theorem dX0_takePart_97 : decode cX0_takePart 97 = .ok (.goto 4, 3) := by decide +kernel
theorem dX0_takePart_100 : decode cX0_takePart 100 = .ok (.iconst 1, 1) := by decide +kernel
theorem dX0_takePart_101 : decode cX0_takePart 101 = .ok (.putfield 15, 3) := by decide +kernel
theorem dX0_takePart_104 : decode cX0_takePart 104 = .ok (.aload_n 0, 1) := by decide +kernel
theorem dX0_takePart_105 : decode cX0_takePart 105 = .ok (.getfield 15, 3) := by decide +kernel
theorem dX0_takePart_108 : decode cX0_takePart 108 = .ok (.iconst 2, 1) := by decide +kernel
theorem dX0_takePart_109 : decode cX0_takePart 109 = .ok (.if_icmp .ne 7, 3) := by decide +kernel
theorem dX0_takePart_112 : decode cX0_takePart 112 = .ok (.iconst 1, 1) := by decide +kernel
theorem dX0_takePart_113 : decode cX0_takePart 113 = .ok (.goto 4, 3) := by decide +kernel
theorem dX0_takePart_116 : decode cX0_takePart 116 = .ok (.iconst 0, 1) := by decide +kernel
theorem dX0_takePart_117 : decode cX0_takePart 117 = .ok (.ireturn, 1) := by decide +kernel
theorem dX0_takeDecision_0 : decode cX0_takeDecision 0 = .ok (.iload_n 1, 1) := by decide +kernel
theorem dX0_takeDecision_1 : decode cX0_takeDecision 1 = .ok (.ifCond .ne 13, 3) := by decide +kernel
theorem dX0_takeDecision_4 : decode cX0_takeDecision 4 = .ok (.aload_n 0, 1) := by decide +kernel
theorem dX0_takeDecision_5 : decode cX0_takeDecision 5 = .ok (.dup, 1) := by decide +kernel
theorem dX0_takeDecision_6 : decode cX0_takeDecision 6 = .ok (.getfield 30, 3) := by decide +kernel
theorem dX0_takeDecision_9 : decode cX0_takeDecision 9 = .ok (.iconst 1, 1) := by decide +kernel
theorem dX0_takeDecision_10 : decode cX0_takeDecision 10 = .ok (.iadd, 1) := by decide +kernel
theorem dX0_takeDecision_11 : decode cX0_takeDecision 11 = .ok (.putfield 30, 3) := by decide +kernel
theorem dX0_takeDecision_14 : decode cX0_takeDecision 14 = .ok (.aload_n 0, 1) := by decide +kernel
theorem dX0_takeDecision_15 : decode cX0_takeDecision 15 = .ok (.iload_n 1, 1) := by decide +kernel
theorem dX0_takeDecision_16 : decode cX0_takeDecision 16 = .ok (.putfield 24, 3) := by decide +kernel
theorem dX0_takeDecision_19 : decode cX0_takeDecision 19 = .ok (.aload_n 0, 1) := by decide +kernel
theorem dX0_takeDecision_20 : decode cX0_takeDecision 20 = .ok (.aload_n 0, 1) := by decide +kernel
theorem dX0_takeDecision_21 : decode cX0_takeDecision 21 = .ok (.getfield 39, 3) := by decide +kernel
theorem dX0_takeDecision_24 : decode cX0_takeDecision 24 = .ok (.iconst 2, 1) := by decide +kernel
theorem dX0_takeDecision_25 : decode cX0_takeDecision 25 = .ok (.if_icmp .ne 7, 3) := by decide +kernel
theorem dX0_takeDecision_28 : decode cX0_takeDecision 28 = .ok (.iconst 3, 1) := by decide +kernel
theorem dX0_takeDecision_29 : decode cX0_takeDecision 29 = .ok (.goto 4, 3) := by decide +kernel
theorem dX0_takeDecision_32 : decode cX0_takeDecision 32 = .ok (.iconst 4, 1) := by decide +kernel
theorem dX0_takeDecision_33 : decode cX0_takeDecision 33 = .ok (.putfield 15, 3) := by decide +kernel
theorem dX0_takeDecision_36 : decode cX0_takeDecision 36 = .ok (.return_, 1) := by decide +kernel
theorem dX0_forgetDecided_0 : decode cX0_forgetDecided 0 = .ok (.aload_n 0, 1) := by decide +kernel
theorem dX0_forgetDecided_1 : decode cX0_forgetDecided 1 = .ok (.getfield 15, 3) := by decide +kernel
theorem dX0_forgetDecided_4 : decode cX0_forgetDecided 4 = .ok (.iconst 3, 1) := by decide +kernel
theorem dX0_forgetDecided_5 : decode cX0_forgetDecided 5 = .ok (.if_icmp .ne 8, 3) := by decide +kernel
theorem dX0_forgetDecided_8 : decode cX0_forgetDecided 8 = .ok (.aload_n 0, 1) := by decide +kernel
theorem dX0_forgetDecided_9 : decode cX0_forgetDecided 9 = .ok (.iconst 4, 1) := by decide +kernel
theorem dX0_forgetDecided_10 : decode cX0_forgetDecided 10 = .ok (.putfield 15, 3) := by decide +kernel
theorem dX0_forgetDecided_13 : decode cX0_forgetDecided 13 = .ok (.return_, 1) := by decide +kernel
theorem dX0_settle_0 : decode cX0_settle 0 = .ok (.aload_n 0, 1) := by decide +kernel
theorem dX0_settle_1 : decode cX0_settle 1 = .ok (.getfield 45, 3) := by decide +kernel
theorem dX0_settle_4 : decode cX0_settle 4 = .ok (.ifCond .eq 5, 3) := by decide +kernel
theorem dX0_settle_7 : decode cX0_settle 7 = .ok (.iconst 0, 1) := by decide +kernel
theorem dX0_settle_8 : decode cX0_settle 8 = .ok (.ireturn, 1) := by decide +kernel
theorem dX0_settle_9 : decode cX0_settle 9 = .ok (.aload_n 0, 1) := by decide +kernel
theorem dX0_settle_10 : decode cX0_settle 10 = .ok (.iconst 1, 1) := by decide +kernel
theorem dX0_settle_11 : decode cX0_settle 11 = .ok (.putfield 45, 3) := by decide +kernel
theorem dX0_settle_14 : decode cX0_settle 14 = .ok (.aload_n 0, 1) := by decide +kernel
theorem dX0_settle_15 : decode cX0_settle 15 = .ok (.iload_n 1, 1) := by decide +kernel
theorem dX0_settle_16 : decode cX0_settle 16 = .ok (.putfield 9, 3) := by decide +kernel
theorem dX0_settle_19 : decode cX0_settle 19 = .ok (.iconst 1, 1) := by decide +kernel
theorem dX0_settle_20 : decode cX0_settle 20 = .ok (.ireturn, 1) := by decide +kernel
theorem dX0_bringTogether_0 : decode cX0_bringTogether 0 = .ok (.aload_n 0, 1) := by decide +kernel
theorem dX0_bringTogether_1 : decode cX0_bringTogether 1 = .ok (.getfield 15, 3) := by decide +kernel
theorem dX0_bringTogether_4 : decode cX0_bringTogether 4 = .ok (.iconst 1, 1) := by decide +kernel
theorem dX0_bringTogether_5 : decode cX0_bringTogether 5 = .ok (.if_icmp .ne 14, 3) := by decide +kernel
theorem dX0_bringTogether_8 : decode cX0_bringTogether 8 = .ok (.aload_n 0, 1) := by decide +kernel
theorem dX0_bringTogether_9 : decode cX0_bringTogether 9 = .ok (.aload_n 0, 1) := by decide +kernel
theorem dX0_bringTogether_10 : decode cX0_bringTogether 10 = .ok (.getfield 18, 3) := by decide +kernel
theorem dX0_bringTogether_13 : decode cX0_bringTogether 13 = .ok (.putfield 15, 3) := by decide +kernel
theorem dX0_bringTogether_16 : decode cX0_bringTogether 16 = .ok (.goto 25, 3) := by decide +kernel
theorem dX0_bringTogether_19 : decode cX0_bringTogether 19 = .ok (.aload_n 0, 1) := by decide +kernel
theorem dX0_bringTogether_20 : decode cX0_bringTogether 20 = .ok (.getfield 15, 3) := by decide +kernel
theorem dX0_bringTogether_23 : decode cX0_bringTogether 23 = .ok (.iconst 3, 1) := by decide +kernel
theorem dX0_bringTogether_24 : decode cX0_bringTogether 24 = .ok (.if_icmp .ne 17, 3) := by decide +kernel
theorem dX0_bringTogether_27 : decode cX0_bringTogether 27 = .ok (.aload_n 0, 1) := by decide +kernel
theorem dX0_bringTogether_28 : decode cX0_bringTogether 28 = .ok (.aload_n 0, 1) := by decide +kernel
theorem dX0_bringTogether_29 : decode cX0_bringTogether 29 = .ok (.getfield 24, 3) := by decide +kernel
theorem dX0_bringTogether_32 : decode cX0_bringTogether 32 = .ok (.invokevirtual 48, 3) := by decide +kernel
theorem dX0_bringTogether_35 : decode cX0_bringTogether 35 = .ok (.pop, 1) := by decide +kernel
theorem dX0_bringTogether_36 : decode cX0_bringTogether 36 = .ok (.aload_n 0, 1) := by decide +kernel
theorem dX0_bringTogether_37 : decode cX0_bringTogether 37 = .ok (.iconst 4, 1) := by decide +kernel
theorem dX0_bringTogether_38 : decode cX0_bringTogether 38 = .ok (.putfield 15, 3) := by decide +kernel
theorem dX0_bringTogether_41 : decode cX0_bringTogether 41 = .ok (.return_, 1) := by decide +kernel
theorem dX0_goesAnew_0 : decode cX0_goesAnew 0 = .ok (.aload_n 0, 1) := by decide +kernel
theorem dX0_goesAnew_1 : decode cX0_goesAnew 1 = .ok (.getfield 15, 3) := by decide +kernel
theorem dX0_goesAnew_4 : decode cX0_goesAnew 4 = .ok (.ifCond .eq 19, 3) := by decide +kernel
theorem dX0_goesAnew_7 : decode cX0_goesAnew 7 = .ok (.aload_n 0, 1) := by decide +kernel
theorem dX0_goesAnew_8 : decode cX0_goesAnew 8 = .ok (.getfield 15, 3) := by decide +kernel
theorem dX0_goesAnew_11 : decode cX0_goesAnew 11 = .ok (.iconst 1, 1) := by decide +kernel
theorem dX0_goesAnew_12 : decode cX0_goesAnew 12 = .ok (.if_icmp .eq 11, 3) := by decide +kernel
theorem dX0_goesAnew_15 : decode cX0_goesAnew 15 = .ok (.aload_n 0, 1) := by decide +kernel
theorem dX0_goesAnew_16 : decode cX0_goesAnew 16 = .ok (.getfield 15, 3) := by decide +kernel
theorem dX0_goesAnew_19 : decode cX0_goesAnew 19 = .ok (.iconst 4, 1) := by decide +kernel
theorem dX0_goesAnew_20 : decode cX0_goesAnew 20 = .ok (.if_icmp .ne 7, 3) := by decide +kernel
theorem dX0_goesAnew_23 : decode cX0_goesAnew 23 = .ok (.iconst 1, 1) := by decide +kernel
theorem dX0_goesAnew_24 : decode cX0_goesAnew 24 = .ok (.goto 4, 3) := by decide +kernel
theorem dX0_goesAnew_27 : decode cX0_goesAnew 27 = .ok (.iconst 0, 1) := by decide +kernel
theorem dX0_goesAnew_28 : decode cX0_goesAnew 28 = .ok (.istore_n 1, 1) := by decide +kernel
theorem dX0_goesAnew_29 : decode cX0_goesAnew 29 = .ok (.aload_n 0, 1) := by decide +kernel
theorem dX0_goesAnew_30 : decode cX0_goesAnew 30 = .ok (.getfield 45, 3) := by decide +kernel
theorem dX0_goesAnew_33 : decode cX0_goesAnew 33 = .ok (.ifCond .ne 11, 3) := by decide +kernel
theorem dX0_goesAnew_36 : decode cX0_goesAnew 36 = .ok (.iload_n 1, 1) := by decide +kernel
theorem dX0_goesAnew_37 : decode cX0_goesAnew 37 = .ok (.ifCond .eq 7, 3) := by decide +kernel
theorem dX0_goesAnew_40 : decode cX0_goesAnew 40 = .ok (.iconst 1, 1) := by decide +kernel
theorem dX0_goesAnew_41 : decode cX0_goesAnew 41 = .ok (.goto 4, 3) := by decide +kernel
theorem dX0_goesAnew_44 : decode cX0_goesAnew 44 = .ok (.iconst 0, 1) := by decide +kernel
theorem dX0_goesAnew_45 : decode cX0_goesAnew 45 = .ok (.ireturn, 1) := by decide +kernel
theorem dX1_init_0 : decode cX1_init 0 = .ok (.aload_n 0, 1) := by decide +kernel
theorem dX1_init_1 : decode cX1_init 1 = .ok (.invokespecial 3, 3) := by decide +kernel
theorem dX1_init_4 : decode cX1_init 4 = .ok (.aload_n 0, 1) := by decide +kernel
theorem dX1_init_5 : decode cX1_init 5 = .ok (.iconst 0, 1) := by decide +kernel
theorem dX1_init_6 : decode cX1_init 6 = .ok (.putfield 9, 3) := by decide +kernel
theorem dX1_init_9 : decode cX1_init 9 = .ok (.aload_n 0, 1) := by decide +kernel
theorem dX1_init_10 : decode cX1_init 10 = .ok (.iconst 0, 1) := by decide +kernel
theorem dX1_init_11 : decode cX1_init 11 = .ok (.putfield 15, 3) := by decide +kernel
theorem dX1_init_14 : decode cX1_init 14 = .ok (.aload_n 0, 1) := by decide +kernel
theorem dX1_init_15 : decode cX1_init 15 = .ok (.iconst 0, 1) := by decide +kernel
theorem dX1_init_16 : decode cX1_init 16 = .ok (.putfield 18, 3) := by decide +kernel
theorem dX1_init_19 : decode cX1_init 19 = .ok (.aload_n 0, 1) := by decide +kernel
theorem dX1_init_20 : decode cX1_init 20 = .ok (.iconst 0, 1) := by decide +kernel
theorem dX1_init_21 : decode cX1_init 21 = .ok (.putfield 21, 3) := by decide +kernel
theorem dX1_init_24 : decode cX1_init 24 = .ok (.return_, 1) := by decide +kernel
theorem dX1_creditLeft_0 : decode cX1_creditLeft 0 = .ok (.aload_n 0, 1) := by decide +kernel
theorem dX1_creditLeft_1 : decode cX1_creditLeft 1 = .ok (.getfield 18, 3) := by decide +kernel
theorem dX1_creditLeft_4 : decode cX1_creditLeft 4 = .ok (.aload_n 0, 1) := by decide +kernel
theorem dX1_creditLeft_5 : decode cX1_creditLeft 5 = .ok (.getfield 15, 3) := by decide +kernel
theorem dX1_creditLeft_8 : decode cX1_creditLeft 8 = .ok (.isub, 1) := by decide +kernel
theorem dX1_creditLeft_9 : decode cX1_creditLeft 9 = .ok (.invokestatic 24, 3) := by decide +kernel
theorem dX1_creditLeft_12 : decode cX1_creditLeft 12 = .ok (.ireturn, 1) := by decide +kernel
theorem dX1_countSent_0 : decode cX1_countSent 0 = .ok (.aload_n 0, 1) := by decide +kernel
theorem dX1_countSent_1 : decode cX1_countSent 1 = .ok (.aload_n 0, 1) := by decide +kernel
theorem dX1_countSent_2 : decode cX1_countSent 2 = .ok (.getfield 15, 3) := by decide +kernel
theorem dX1_countSent_5 : decode cX1_countSent 5 = .ok (.iconst 1, 1) := by decide +kernel
theorem dX1_countSent_6 : decode cX1_countSent 6 = .ok (.iadd, 1) := by decide +kernel
theorem dX1_countSent_7 : decode cX1_countSent 7 = .ok (.invokestatic 24, 3) := by decide +kernel
theorem dX1_countSent_10 : decode cX1_countSent 10 = .ok (.putfield 15, 3) := by decide +kernel
theorem dX1_countSent_13 : decode cX1_countSent 13 = .ok (.return_, 1) := by decide +kernel
theorem dX1_countCome_0 : decode cX1_countCome 0 = .ok (.aload_n 0, 1) := by decide +kernel
theorem dX1_countCome_1 : decode cX1_countCome 1 = .ok (.aload_n 0, 1) := by decide +kernel
theorem dX1_countCome_2 : decode cX1_countCome 2 = .ok (.getfield 21, 3) := by decide +kernel
theorem dX1_countCome_5 : decode cX1_countCome 5 = .ok (.iconst 1, 1) := by decide +kernel
theorem dX1_countCome_6 : decode cX1_countCome 6 = .ok (.iadd, 1) := by decide +kernel
theorem dX1_countCome_7 : decode cX1_countCome 7 = .ok (.invokestatic 24, 3) := by decide +kernel
theorem dX1_countCome_10 : decode cX1_countCome 10 = .ok (.putfield 21, 3) := by decide +kernel
theorem dX1_countCome_13 : decode cX1_countCome 13 = .ok (.return_, 1) := by decide +kernel
theorem dX1_startAgain_0 : decode cX1_startAgain 0 = .ok (.aload_n 0, 1) := by decide +kernel
theorem dX1_startAgain_1 : decode cX1_startAgain 1 = .ok (.aload_n 0, 1) := by decide +kernel
theorem dX1_startAgain_2 : decode cX1_startAgain 2 = .ok (.getfield 15, 3) := by decide +kernel
theorem dX1_startAgain_5 : decode cX1_startAgain 5 = .ok (.putfield 21, 3) := by decide +kernel
theorem dX1_startAgain_8 : decode cX1_startAgain 8 = .ok (.aload_n 0, 1) := by decide +kernel
theorem dX1_startAgain_9 : decode cX1_startAgain 9 = .ok (.aload_n 0, 1) := by decide +kernel
theorem dX1_startAgain_10 : decode cX1_startAgain 10 = .ok (.getfield 15, 3) := by decide +kernel
theorem dX1_startAgain_13 : decode cX1_startAgain 13 = .ok (.putfield 18, 3) := by decide +kernel
theorem dX1_startAgain_16 : decode cX1_startAgain 16 = .ok (.return_, 1) := by decide +kernel
theorem dX2_init_0 : decode cX2_init 0 = .ok (.aload_n 0, 1) := by decide +kernel
theorem dX2_init_1 : decode cX2_init 1 = .ok (.invokespecial 3, 3) := by decide +kernel
theorem dX2_init_4 : decode cX2_init 4 = .ok (.aload_n 0, 1) := by decide +kernel
theorem dX2_init_5 : decode cX2_init 5 = .ok (.sipush 512, 3) := by decide +kernel
theorem dX2_init_8 : decode cX2_init 8 = .ok (.newarray .int, 2) := by decide +kernel
theorem dX2_init_10 : decode cX2_init 10 = .ok (.putfield 9, 3) := by decide +kernel
theorem dX2_init_13 : decode cX2_init 13 = .ok (.aload_n 0, 1) := by decide +kernel
theorem dX2_init_14 : decode cX2_init 14 = .ok (.sipush 512, 3) := by decide +kernel
theorem dX2_init_17 : decode cX2_init 17 = .ok (.newarray .int, 2) := by decide +kernel
theorem dX2_init_19 : decode cX2_init 19 = .ok (.putfield 13, 3) := by decide +kernel
theorem dX2_init_22 : decode cX2_init 22 = .ok (.aload_n 0, 1) := by decide +kernel
theorem dX2_init_23 : decode cX2_init 23 = .ok (.sipush 512, 3) := by decide +kernel
theorem dX2_init_26 : decode cX2_init 26 = .ok (.newarray .int, 2) := by decide +kernel
theorem dX2_init_28 : decode cX2_init 28 = .ok (.putfield 16, 3) := by decide +kernel
theorem dX2_init_31 : decode cX2_init 31 = .ok (.aload_n 0, 1) := by decide +kernel
theorem dX2_init_32 : decode cX2_init 32 = .ok (.iconst 0, 1) := by decide +kernel
theorem dX2_init_33 : decode cX2_init 33 = .ok (.putfield 19, 3) := by decide +kernel
theorem dX2_init_36 : decode cX2_init 36 = .ok (.aload_n 0, 1) := by decide +kernel
theorem dX2_init_37 : decode cX2_init 37 = .ok (.iconst 0, 1) := by decide +kernel
theorem dX2_init_38 : decode cX2_init 38 = .ok (.putfield 23, 3) := by decide +kernel
theorem dX2_init_41 : decode cX2_init 41 = .ok (.return_, 1) := by decide +kernel
theorem dX2_length_0 : decode cX2_length 0 = .ok (.aload_n 0, 1) := by decide +kernel
theorem dX2_length_1 : decode cX2_length 1 = .ok (.getfield 23, 3) := by decide +kernel
theorem dX2_length_4 : decode cX2_length 4 = .ok (.ireturn, 1) := by decide +kernel
theorem dX2_add_0 : decode cX2_add 0 = .ok (.aload_n 0, 1) := by decide +kernel
theorem dX2_add_1 : decode cX2_add 1 = .ok (.getfield 23, 3) := by decide +kernel
theorem dX2_add_4 : decode cX2_add 4 = .ok (.sipush 512, 3) := by decide +kernel
theorem dX2_add_7 : decode cX2_add 7 = .ok (.if_icmp .lt 4, 3) := by decide +kernel
theorem dX2_add_10 : decode cX2_add 10 = .ok (.return_, 1) := by decide +kernel
theorem dX2_add_11 : decode cX2_add 11 = .ok (.aload_n 0, 1) := by decide +kernel
theorem dX2_add_12 : decode cX2_add 12 = .ok (.getfield 19, 3) := by decide +kernel
theorem dX2_add_15 : decode cX2_add 15 = .ok (.aload_n 0, 1) := by decide +kernel
theorem dX2_add_16 : decode cX2_add 16 = .ok (.getfield 23, 3) := by decide +kernel
theorem dX2_add_19 : decode cX2_add 19 = .ok (.iadd, 1) := by decide +kernel
theorem dX2_add_20 : decode cX2_add 20 = .ok (.sipush 511, 3) := by decide +kernel
theorem dX2_add_23 : decode cX2_add 23 = .ok (.iand, 1) := by decide +kernel
theorem dX2_add_24 : decode cX2_add 24 = .ok (.istore 4, 2) := by decide +kernel
theorem dX2_add_26 : decode cX2_add 26 = .ok (.aload_n 0, 1) := by decide +kernel
theorem dX2_add_27 : decode cX2_add 27 = .ok (.getfield 9, 3) := by decide +kernel
theorem dX2_add_30 : decode cX2_add 30 = .ok (.iload 4, 2) := by decide +kernel
theorem dX2_add_32 : decode cX2_add 32 = .ok (.iload_n 1, 1) := by decide +kernel
theorem dX2_add_33 : decode cX2_add 33 = .ok (.iastore, 1) := by decide +kernel
theorem dX2_add_34 : decode cX2_add 34 = .ok (.aload_n 0, 1) := by decide +kernel
theorem dX2_add_35 : decode cX2_add 35 = .ok (.getfield 13, 3) := by decide +kernel
theorem dX2_add_38 : decode cX2_add 38 = .ok (.iload 4, 2) := by decide +kernel
theorem dX2_add_40 : decode cX2_add 40 = .ok (.iload_n 2, 1) := by decide +kernel
theorem dX2_add_41 : decode cX2_add 41 = .ok (.iastore, 1) := by decide +kernel
theorem dX2_add_42 : decode cX2_add 42 = .ok (.aload_n 0, 1) := by decide +kernel
theorem dX2_add_43 : decode cX2_add 43 = .ok (.getfield 16, 3) := by decide +kernel
theorem dX2_add_46 : decode cX2_add 46 = .ok (.iload 4, 2) := by decide +kernel
theorem dX2_add_48 : decode cX2_add 48 = .ok (.iload_n 3, 1) := by decide +kernel
theorem dX2_add_49 : decode cX2_add 49 = .ok (.iastore, 1) := by decide +kernel
theorem dX2_add_50 : decode cX2_add 50 = .ok (.aload_n 0, 1) := by decide +kernel
theorem dX2_add_51 : decode cX2_add 51 = .ok (.dup, 1) := by decide +kernel
theorem dX2_add_52 : decode cX2_add 52 = .ok (.getfield 23, 3) := by decide +kernel
theorem dX2_add_55 : decode cX2_add 55 = .ok (.iconst 1, 1) := by decide +kernel
theorem dX2_add_56 : decode cX2_add 56 = .ok (.iadd, 1) := by decide +kernel
theorem dX2_add_57 : decode cX2_add 57 = .ok (.putfield 23, 3) := by decide +kernel
theorem dX2_add_60 : decode cX2_add 60 = .ok (.return_, 1) := by decide +kernel
theorem dX2_firstKind_0 : decode cX2_firstKind 0 = .ok (.aload_n 0, 1) := by decide +kernel
theorem dX2_firstKind_1 : decode cX2_firstKind 1 = .ok (.getfield 9, 3) := by decide +kernel
theorem dX2_firstKind_4 : decode cX2_firstKind 4 = .ok (.aload_n 0, 1) := by decide +kernel
theorem dX2_firstKind_5 : decode cX2_firstKind 5 = .ok (.getfield 19, 3) := by decide +kernel
theorem dX2_firstKind_8 : decode cX2_firstKind 8 = .ok (.sipush 511, 3) := by decide +kernel
theorem dX2_firstKind_11 : decode cX2_firstKind 11 = .ok (.iand, 1) := by decide +kernel
theorem dX2_firstKind_12 : decode cX2_firstKind 12 = .ok (.iaload, 1) := by decide +kernel
theorem dX2_firstKind_13 : decode cX2_firstKind 13 = .ok (.ireturn, 1) := by decide +kernel
theorem dX2_firstSubject_0 : decode cX2_firstSubject 0 = .ok (.aload_n 0, 1) := by decide +kernel
theorem dX2_firstSubject_1 : decode cX2_firstSubject 1 = .ok (.getfield 13, 3) := by decide +kernel
theorem dX2_firstSubject_4 : decode cX2_firstSubject 4 = .ok (.aload_n 0, 1) := by decide +kernel
theorem dX2_firstSubject_5 : decode cX2_firstSubject 5 = .ok (.getfield 19, 3) := by decide +kernel
theorem dX2_firstSubject_8 : decode cX2_firstSubject 8 = .ok (.sipush 511, 3) := by decide +kernel
theorem dX2_firstSubject_11 : decode cX2_firstSubject 11 = .ok (.iand, 1) := by decide +kernel
theorem dX2_firstSubject_12 : decode cX2_firstSubject 12 = .ok (.iaload, 1) := by decide +kernel
theorem dX2_firstSubject_13 : decode cX2_firstSubject 13 = .ok (.ireturn, 1) := by decide +kernel
theorem dX2_firstValue_0 : decode cX2_firstValue 0 = .ok (.aload_n 0, 1) := by decide +kernel
theorem dX2_firstValue_1 : decode cX2_firstValue 1 = .ok (.getfield 16, 3) := by decide +kernel
theorem dX2_firstValue_4 : decode cX2_firstValue 4 = .ok (.aload_n 0, 1) := by decide +kernel
theorem dX2_firstValue_5 : decode cX2_firstValue 5 = .ok (.getfield 19, 3) := by decide +kernel
theorem dX2_firstValue_8 : decode cX2_firstValue 8 = .ok (.sipush 511, 3) := by decide +kernel
theorem dX2_firstValue_11 : decode cX2_firstValue 11 = .ok (.iand, 1) := by decide +kernel
theorem dX2_firstValue_12 : decode cX2_firstValue 12 = .ok (.iaload, 1) := by decide +kernel
theorem dX2_firstValue_13 : decode cX2_firstValue 13 = .ok (.ireturn, 1) := by decide +kernel
theorem dX2_dropFirst_0 : decode cX2_dropFirst 0 = .ok (.aload_n 0, 1) := by decide +kernel
theorem dX2_dropFirst_1 : decode cX2_dropFirst 1 = .ok (.getfield 23, 3) := by decide +kernel
theorem dX2_dropFirst_4 : decode cX2_dropFirst 4 = .ok (.ifCond .le 27, 3) := by decide +kernel
theorem dX2_dropFirst_7 : decode cX2_dropFirst 7 = .ok (.aload_n 0, 1) := by decide +kernel
theorem dX2_dropFirst_8 : decode cX2_dropFirst 8 = .ok (.aload_n 0, 1) := by decide +kernel
theorem dX2_dropFirst_9 : decode cX2_dropFirst 9 = .ok (.getfield 19, 3) := by decide +kernel
theorem dX2_dropFirst_12 : decode cX2_dropFirst 12 = .ok (.iconst 1, 1) := by decide +kernel
theorem dX2_dropFirst_13 : decode cX2_dropFirst 13 = .ok (.iadd, 1) := by decide +kernel
theorem dX2_dropFirst_14 : decode cX2_dropFirst 14 = .ok (.sipush 511, 3) := by decide +kernel
theorem dX2_dropFirst_17 : decode cX2_dropFirst 17 = .ok (.iand, 1) := by decide +kernel
theorem dX2_dropFirst_18 : decode cX2_dropFirst 18 = .ok (.putfield 19, 3) := by decide +kernel
theorem dX2_dropFirst_21 : decode cX2_dropFirst 21 = .ok (.aload_n 0, 1) := by decide +kernel
theorem dX2_dropFirst_22 : decode cX2_dropFirst 22 = .ok (.dup, 1) := by decide +kernel
theorem dX2_dropFirst_23 : decode cX2_dropFirst 23 = .ok (.getfield 23, 3) := by decide +kernel
theorem dX2_dropFirst_26 : decode cX2_dropFirst 26 = .ok (.iconst 1, 1) := by decide +kernel
theorem dX2_dropFirst_27 : decode cX2_dropFirst 27 = .ok (.isub, 1) := by decide +kernel
theorem dX2_dropFirst_28 : decode cX2_dropFirst 28 = .ok (.putfield 23, 3) := by decide +kernel
theorem dX2_dropFirst_31 : decode cX2_dropFirst 31 = .ok (.return_, 1) := by decide +kernel
theorem dX2_drop_0 : decode cX2_drop 0 = .ok (.aload_n 0, 1) := by decide +kernel
theorem dX2_drop_1 : decode cX2_drop 1 = .ok (.iconst 0, 1) := by decide +kernel
theorem dX2_drop_2 : decode cX2_drop 2 = .ok (.putfield 19, 3) := by decide +kernel
theorem dX2_drop_5 : decode cX2_drop 5 = .ok (.aload_n 0, 1) := by decide +kernel
theorem dX2_drop_6 : decode cX2_drop 6 = .ok (.iconst 0, 1) := by decide +kernel
theorem dX2_drop_7 : decode cX2_drop 7 = .ok (.putfield 23, 3) := by decide +kernel
theorem dX2_drop_10 : decode cX2_drop 10 = .ok (.return_, 1) := by decide +kernel
theorem dX3_init_0 : decode cX3_init 0 = .ok (.aload_n 0, 1) := by decide +kernel
theorem dX3_init_1 : decode cX3_init 1 = .ok (.invokespecial 1, 3) := by decide +kernel
theorem dX3_init_4 : decode cX3_init 4 = .ok (.aload_n 0, 1) := by decide +kernel
theorem dX3_init_5 : decode cX3_init 5 = .ok (.iconst 4, 1) := by decide +kernel
theorem dX3_init_6 : decode cX3_init 6 = .ok (.anewarray 9, 3) := by decide +kernel
theorem dX3_init_9 : decode cX3_init 9 = .ok (.putfield 11, 3) := by decide +kernel
theorem dX3_init_12 : decode cX3_init 12 = .ok (.aload_n 0, 1) := by decide +kernel
theorem dX3_init_13 : decode cX3_init 13 = .ok (.new 15, 3) := by decide +kernel
theorem dX3_init_16 : decode cX3_init 16 = .ok (.dup, 1) := by decide +kernel
theorem dX3_init_17 : decode cX3_init 17 = .ok (.invokespecial 17, 3) := by decide +kernel
theorem dX3_init_20 : decode cX3_init 20 = .ok (.putfield 18, 3) := by decide +kernel
theorem dX3_init_23 : decode cX3_init 23 = .ok (.aload_n 0, 1) := by decide +kernel
theorem dX3_init_24 : decode cX3_init 24 = .ok (.new 22, 3) := by decide +kernel
theorem dX3_init_27 : decode cX3_init 27 = .ok (.dup, 1) := by decide +kernel
theorem dX3_init_28 : decode cX3_init 28 = .ok (.invokespecial 24, 3) := by decide +kernel
theorem dX3_init_31 : decode cX3_init 31 = .ok (.putfield 25, 3) := by decide +kernel
theorem dX3_init_34 : decode cX3_init 34 = .ok (.aload_n 0, 1) := by decide +kernel
theorem dX3_init_35 : decode cX3_init 35 = .ok (.new 22, 3) := by decide +kernel
theorem dX3_init_38 : decode cX3_init 38 = .ok (.dup, 1) := by decide +kernel
theorem dX3_init_39 : decode cX3_init 39 = .ok (.invokespecial 24, 3) := by decide +kernel
theorem dX3_init_42 : decode cX3_init 42 = .ok (.putfield 29, 3) := by decide +kernel
theorem dX3_init_45 : decode cX3_init 45 = .ok (.aload_n 0, 1) := by decide +kernel
theorem dX3_init_46 : decode cX3_init 46 = .ok (.new 15, 3) := by decide +kernel
theorem dX3_init_49 : decode cX3_init 49 = .ok (.dup, 1) := by decide +kernel
theorem dX3_init_50 : decode cX3_init 50 = .ok (.invokespecial 17, 3) := by decide +kernel
theorem dX3_init_53 : decode cX3_init 53 = .ok (.putfield 32, 3) := by decide +kernel
theorem dX3_init_56 : decode cX3_init 56 = .ok (.aload_n 0, 1) := by decide +kernel
theorem dX3_init_57 : decode cX3_init 57 = .ok (.iconst 1, 1) := by decide +kernel
theorem dX3_init_58 : decode cX3_init 58 = .ok (.putfield 35, 3) := by decide +kernel
theorem dX3_init_61 : decode cX3_init 61 = .ok (.aload_n 0, 1) := by decide +kernel
theorem dX3_init_62 : decode cX3_init 62 = .ok (.iconst 0, 1) := by decide +kernel
theorem dX3_init_63 : decode cX3_init 63 = .ok (.putfield 39, 3) := by decide +kernel
theorem dX3_init_66 : decode cX3_init 66 = .ok (.aload_n 0, 1) := by decide +kernel
theorem dX3_init_67 : decode cX3_init 67 = .ok (.iconst 0, 1) := by decide +kernel
theorem dX3_init_68 : decode cX3_init 68 = .ok (.putfield 42, 3) := by decide +kernel
theorem dX3_init_71 : decode cX3_init 71 = .ok (.iconst 0, 1) := by decide +kernel
theorem dX3_init_72 : decode cX3_init 72 = .ok (.istore_n 1, 1) := by decide +kernel
theorem dX3_init_73 : decode cX3_init 73 = .ok (.iload_n 1, 1) := by decide +kernel
theorem dX3_init_74 : decode cX3_init 74 = .ok (.iconst 4, 1) := by decide +kernel
theorem dX3_init_75 : decode cX3_init 75 = .ok (.if_icmp .ge 22, 3) := by decide +kernel
theorem dX3_init_78 : decode cX3_init 78 = .ok (.aload_n 0, 1) := by decide +kernel
theorem dX3_init_79 : decode cX3_init 79 = .ok (.getfield 11, 3) := by decide +kernel
theorem dX3_init_82 : decode cX3_init 82 = .ok (.iload_n 1, 1) := by decide +kernel
theorem dX3_init_83 : decode cX3_init 83 = .ok (.new 9, 3) := by decide +kernel
theorem dX3_init_86 : decode cX3_init 86 = .ok (.dup, 1) := by decide +kernel
theorem dX3_init_87 : decode cX3_init 87 = .ok (.invokespecial 46, 3) := by decide +kernel
theorem dX3_init_90 : decode cX3_init 90 = .ok (.aastore, 1) := by decide +kernel
theorem dX3_init_91 : decode cX3_init 91 = .ok (.iinc 1 1, 3) := by decide +kernel
theorem dX3_init_94 : decode cX3_init 94 = .ok (.goto (-21), 3) := by decide +kernel
theorem dX3_init_97 : decode cX3_init 97 = .ok (.return_, 1) := by decide +kernel
theorem dX3_setMode_0 : decode cX3_setMode 0 = .ok (.aload_n 0, 1) := by decide +kernel
theorem dX3_setMode_1 : decode cX3_setMode 1 = .ok (.iload_n 1, 1) := by decide +kernel
theorem dX3_setMode_2 : decode cX3_setMode 2 = .ok (.invokevirtual 47, 3) := by decide +kernel
theorem dX3_setMode_5 : decode cX3_setMode 5 = .ok (.astore_n 3, 1) := by decide +kernel
theorem dX3_setMode_6 : decode cX3_setMode 6 = .ok (.iload_n 2, 1) := by decide +kernel
theorem dX3_setMode_7 : decode cX3_setMode 7 = .ok (.ifCond .lt 8, 3) := by decide +kernel
theorem dX3_setMode_10 : decode cX3_setMode 10 = .ok (.iload_n 2, 1) := by decide +kernel
theorem dX3_setMode_11 : decode cX3_setMode 11 = .ok (.iconst 2, 1) := by decide +kernel
theorem dX3_setMode_12 : decode cX3_setMode 12 = .ok (.if_icmp .le 13, 3) := by decide +kernel
theorem dX3_setMode_15 : decode cX3_setMode 15 = .ok (.new 51, 3) := by decide +kernel
theorem dX3_setMode_18 : decode cX3_setMode 18 = .ok (.dup, 1) := by decide +kernel
theorem dX3_setMode_19 : decode cX3_setMode 19 = .ok (.ldc 53, 2) := by decide +kernel
theorem dX3_setMode_21 : decode cX3_setMode 21 = .ok (.invokespecial 55, 3) := by decide +kernel
theorem dX3_setMode_24 : decode cX3_setMode 24 = .ok (.athrow, 1) := by decide +kernel
theorem dX3_setMode_25 : decode cX3_setMode 25 = .ok (.aload_n 3, 1) := by decide +kernel
theorem dX3_setMode_26 : decode cX3_setMode 26 = .ok (.getfield 58, 3) := by decide +kernel
theorem dX3_setMode_29 : decode cX3_setMode 29 = .ok (.istore 4, 2) := by decide +kernel
theorem dX3_setMode_31 : decode cX3_setMode 31 = .ok (.aload_n 3, 1) := by decide +kernel
theorem dX3_setMode_32 : decode cX3_setMode 32 = .ok (.iload_n 2, 1) := by decide +kernel
theorem dX3_setMode_33 : decode cX3_setMode 33 = .ok (.putfield 58, 3) := by decide +kernel
theorem dX3_setMode_36 : decode cX3_setMode 36 = .ok (.iload 4, 2) := by decide +kernel
theorem dX3_setMode_38 : decode cX3_setMode 38 = .ok (.ireturn, 1) := by decide +kernel
theorem dX3_grant_0 : decode cX3_grant 0 = .ok (.aload_n 0, 1) := by decide +kernel
theorem dX3_grant_1 : decode cX3_grant 1 = .ok (.iload_n 1, 1) := by decide +kernel
theorem dX3_grant_2 : decode cX3_grant 2 = .ok (.invokevirtual 47, 3) := by decide +kernel
theorem dX3_grant_5 : decode cX3_grant 5 = .ok (.astore_n 3, 1) := by decide +kernel
theorem dX3_grant_6 : decode cX3_grant 6 = .ok (.iload_n 2, 1) := by decide +kernel
theorem dX3_grant_7 : decode cX3_grant 7 = .ok (.ifCond .lt 9, 3) := by decide +kernel
theorem dX3_grant_10 : decode cX3_grant 10 = .ok (.iload_n 2, 1) := by decide +kernel
theorem dX3_grant_11 : decode cX3_grant 11 = .ok (.bipush 15, 2) := by decide +kernel
theorem dX3_grant_13 : decode cX3_grant 13 = .ok (.if_icmp .le 13, 3) := by decide +kernel
theorem dX3_grant_16 : decode cX3_grant 16 = .ok (.new 51, 3) := by decide +kernel
theorem dX3_grant_19 : decode cX3_grant 19 = .ok (.dup, 1) := by decide +kernel
theorem dX3_grant_20 : decode cX3_grant 20 = .ok (.ldc 61, 2) := by decide +kernel
theorem dX3_grant_22 : decode cX3_grant 22 = .ok (.invokespecial 55, 3) := by decide +kernel
theorem dX3_grant_25 : decode cX3_grant 25 = .ok (.athrow, 1) := by decide +kernel
theorem dX3_grant_26 : decode cX3_grant 26 = .ok (.aload_n 0, 1) := by decide +kernel
theorem dX3_grant_27 : decode cX3_grant 27 = .ok (.invokevirtual 63, 3) := by decide +kernel
theorem dX3_grant_30 : decode cX3_grant 30 = .ok (.aload_n 3, 1) := by decide +kernel
theorem dX3_grant_31 : decode cX3_grant 31 = .ok (.getfield 66, 3) := by decide +kernel
theorem dX3_grant_34 : decode cX3_grant 34 = .ok (.iload_n 2, 1) := by decide +kernel
theorem dX3_grant_35 : decode cX3_grant 35 = .ok (.iadd, 1) := by decide +kernel
theorem dX3_grant_36 : decode cX3_grant 36 = .ok (.invokestatic 69, 3) := by decide +kernel
theorem dX3_grant_39 : decode cX3_grant 39 = .ok (.istore 4, 2) := by decide +kernel
theorem dX3_grant_41 : decode cX3_grant 41 = .ok (.aload_n 0, 1) := by decide +kernel
theorem dX3_grant_42 : decode cX3_grant 42 = .ok (.getfield 29, 3) := by decide +kernel
theorem dX3_grant_45 : decode cX3_grant 45 = .ok (.iconst 3, 1) := by decide +kernel
theorem dX3_grant_46 : decode cX3_grant 46 = .ok (.iload_n 1, 1) := by decide +kernel
theorem dX3_grant_47 : decode cX3_grant 47 = .ok (.iload 4, 2) := by decide +kernel
theorem dX3_grant_49 : decode cX3_grant 49 = .ok (.invokevirtual 73, 3) := by decide +kernel
theorem dX3_grant_52 : decode cX3_grant 52 = .ok (.iload 4, 2) := by decide +kernel
theorem dX3_grant_54 : decode cX3_grant 54 = .ok (.ireturn, 1) := by decide +kernel
theorem dX3_credit_0 : decode cX3_credit 0 = .ok (.aload_n 0, 1) := by decide +kernel
theorem dX3_credit_1 : decode cX3_credit 1 = .ok (.iload_n 1, 1) := by decide +kernel
theorem dX3_credit_2 : decode cX3_credit 2 = .ok (.invokevirtual 47, 3) := by decide +kernel
theorem dX3_credit_5 : decode cX3_credit 5 = .ok (.invokevirtual 77, 3) := by decide +kernel
theorem dX3_credit_8 : decode cX3_credit 8 = .ok (.ireturn, 1) := by decide +kernel
theorem dX3_send_0 : decode cX3_send 0 = .ok (.aload_n 0, 1) := by decide +kernel
theorem dX3_send_1 : decode cX3_send 1 = .ok (.iload_n 1, 1) := by decide +kernel
theorem dX3_send_2 : decode cX3_send 2 = .ok (.invokevirtual 47, 3) := by decide +kernel
theorem dX3_send_5 : decode cX3_send 5 = .ok (.astore_n 3, 1) := by decide +kernel
theorem dX3_send_6 : decode cX3_send 6 = .ok (.iload_n 2, 1) := by decide +kernel
theorem dX3_send_7 : decode cX3_send 7 = .ok (.iconst 1, 1) := by decide +kernel
theorem dX3_send_8 : decode cX3_send 8 = .ok (.if_icmp .lt 8, 3) := by decide +kernel
theorem dX3_send_11 : decode cX3_send 11 = .ok (.iload_n 2, 1) := by decide +kernel
theorem dX3_send_12 : decode cX3_send 12 = .ok (.iconst 4, 1) := by decide +kernel
theorem dX3_send_13 : decode cX3_send 13 = .ok (.if_icmp .le 13, 3) := by decide +kernel
theorem dX3_send_16 : decode cX3_send 16 = .ok (.new 51, 3) := by decide +kernel
theorem dX3_send_19 : decode cX3_send 19 = .ok (.dup, 1) := by decide +kernel
theorem dX3_send_20 : decode cX3_send 20 = .ok (.ldc 81, 2) := by decide +kernel
theorem dX3_send_22 : decode cX3_send 22 = .ok (.invokespecial 55, 3) := by decide +kernel
theorem dX3_send_25 : decode cX3_send 25 = .ok (.athrow, 1) := by decide +kernel
theorem dX3_send_26 : decode cX3_send 26 = .ok (.aload_n 0, 1) := by decide +kernel
theorem dX3_send_27 : decode cX3_send 27 = .ok (.invokevirtual 63, 3) := by decide +kernel
theorem dX3_send_30 : decode cX3_send 30 = .ok (.aload_n 0, 1) := by decide +kernel
theorem dX3_send_31 : decode cX3_send 31 = .ok (.getfield 18, 3) := by decide +kernel
theorem dX3_send_34 : decode cX3_send 34 = .ok (.invokevirtual 83, 3) := by decide +kernel
theorem dX3_send_37 : decode cX3_send 37 = .ok (.bipush 60, 2) := by decide +kernel
theorem dX3_send_39 : decode cX3_send 39 = .ok (.if_icmp .lt 13, 3) := by decide +kernel
theorem dX3_send_42 : decode cX3_send 42 = .ok (.new 86, 3) := by decide +kernel
theorem dX3_send_45 : decode cX3_send 45 = .ok (.dup, 1) := by decide +kernel
theorem dX3_send_46 : decode cX3_send 46 = .ok (.ldc 88, 2) := by decide +kernel
theorem dX3_send_48 : decode cX3_send 48 = .ok (.invokespecial 90, 3) := by decide +kernel
theorem dX3_send_51 : decode cX3_send 51 = .ok (.athrow, 1) := by decide +kernel
theorem dX3_send_52 : decode cX3_send 52 = .ok (.aload_n 3, 1) := by decide +kernel
theorem dX3_send_53 : decode cX3_send 53 = .ok (.invokevirtual 77, 3) := by decide +kernel
theorem dX3_send_56 : decode cX3_send 56 = .ok (.ifCond .ne 13, 3) := by decide +kernel
theorem dX3_send_59 : decode cX3_send 59 = .ok (.new 86, 3) := by decide +kernel
theorem dX3_send_62 : decode cX3_send 62 = .ok (.dup, 1) := by decide +kernel
theorem dX3_send_63 : decode cX3_send 63 = .ok (.ldc 91, 2) := by decide +kernel
theorem dX3_send_65 : decode cX3_send 65 = .ok (.invokespecial 90, 3) := by decide +kernel
theorem dX3_send_68 : decode cX3_send 68 = .ok (.athrow, 1) := by decide +kernel
theorem dX3_send_69 : decode cX3_send 69 = .ok (.new 93, 3) := by decide +kernel
theorem dX3_send_72 : decode cX3_send 72 = .ok (.dup, 1) := by decide +kernel
theorem dX3_send_73 : decode cX3_send 73 = .ok (.aload_n 0, 1) := by decide +kernel
theorem dX3_send_74 : decode cX3_send 74 = .ok (.getfield 18, 3) := by decide +kernel
theorem dX3_send_77 : decode cX3_send 77 = .ok (.invokevirtual 83, 3) := by decide +kernel
theorem dX3_send_80 : decode cX3_send 80 = .ok (.iload_n 1, 1) := by decide +kernel
theorem dX3_send_81 : decode cX3_send 81 = .ok (.aload_n 3, 1) := by decide +kernel
theorem dX3_send_82 : decode cX3_send 82 = .ok (.getfield 58, 3) := by decide +kernel
theorem dX3_send_85 : decode cX3_send 85 = .ok (.iload_n 2, 1) := by decide +kernel
theorem dX3_send_86 : decode cX3_send 86 = .ok (.invokespecial 95, 3) := by decide +kernel
theorem dX3_send_89 : decode cX3_send 89 = .ok (.astore 4, 2) := by decide +kernel
theorem dX3_send_91 : decode cX3_send 91 = .ok (.aload_n 0, 1) := by decide +kernel
theorem dX3_send_92 : decode cX3_send 92 = .ok (.getfield 18, 3) := by decide +kernel
theorem dX3_send_95 : decode cX3_send 95 = .ok (.aload 4, 2) := by decide +kernel
theorem dX3_send_97 : decode cX3_send 97 = .ok (.invokevirtual 98, 3) := by decide +kernel
theorem dX3_send_100 : decode cX3_send 100 = .ok (.pop, 1) := by decide +kernel
theorem dX3_send_101 : decode cX3_send 101 = .ok (.aload_n 3, 1) := by decide +kernel
theorem dX3_send_102 : decode cX3_send 102 = .ok (.invokevirtual 101, 3) := by decide +kernel
theorem dX3_send_105 : decode cX3_send 105 = .ok (.aload_n 0, 1) := by decide +kernel
theorem dX3_send_106 : decode cX3_send 106 = .ok (.aload 4, 2) := by decide +kernel
theorem dX3_send_108 : decode cX3_send 108 = .ok (.iconst 0, 1) := by decide +kernel
theorem dX3_send_109 : decode cX3_send 109 = .ok (.invokevirtual 104, 3) := by decide +kernel
theorem dX3_send_112 : decode cX3_send 112 = .ok (.aload 4, 2) := by decide +kernel
theorem dX3_send_114 : decode cX3_send 114 = .ok (.getfield 108, 3) := by decide +kernel
theorem dX3_send_117 : decode cX3_send 117 = .ok (.ireturn, 1) := by decide +kernel
theorem dX3_toReceiver_0 : decode cX3_toReceiver 0 = .ok (.iload_n 1, 1) := by decide +kernel
theorem dX3_toReceiver_1 : decode cX3_toReceiver 1 = .ok (.invokestatic 111, 3) := by decide +kernel
theorem dX3_toReceiver_4 : decode cX3_toReceiver 4 = .ok (.iconst 0, 1) := by decide +kernel
theorem dX3_toReceiver_5 : decode cX3_toReceiver 5 = .ok (.istore_n 2, 1) := by decide +kernel
theorem dX3_toReceiver_6 : decode cX3_toReceiver 6 = .ok (.iconst 0, 1) := by decide +kernel
theorem dX3_toReceiver_7 : decode cX3_toReceiver 7 = .ok (.istore_n 3, 1) := by decide +kernel
theorem dX3_toReceiver_8 : decode cX3_toReceiver 8 = .ok (.iload_n 3, 1) := by decide +kernel
theorem dX3_toReceiver_9 : decode cX3_toReceiver 9 = .ok (.iload_n 1, 1) := by decide +kernel
theorem dX3_toReceiver_10 : decode cX3_toReceiver 10 = .ok (.if_icmp .ge 29, 3) := by decide +kernel
theorem dX3_toReceiver_13 : decode cX3_toReceiver 13 = .ok (.aload_n 0, 1) := by decide +kernel
theorem dX3_toReceiver_14 : decode cX3_toReceiver 14 = .ok (.getfield 25, 3) := by decide +kernel
theorem dX3_toReceiver_17 : decode cX3_toReceiver 17 = .ok (.invokevirtual 115, 3) := by decide +kernel
theorem dX3_toReceiver_20 : decode cX3_toReceiver 20 = .ok (.ifCond .le 19, 3) := by decide +kernel
theorem dX3_toReceiver_23 : decode cX3_toReceiver 23 = .ok (.aload_n 0, 1) := by decide +kernel
theorem dX3_toReceiver_24 : decode cX3_toReceiver 24 = .ok (.invokevirtual 118, 3) := by decide +kernel
theorem dX3_toReceiver_27 : decode cX3_toReceiver 27 = .ok (.ifCond .eq 6, 3) := by decide +kernel
theorem dX3_toReceiver_30 : decode cX3_toReceiver 30 = .ok (.iinc 2 1, 3) := by decide +kernel
theorem dX3_toReceiver_33 : decode cX3_toReceiver 33 = .ok (.iinc 3 1, 3) := by decide +kernel
theorem dX3_toReceiver_36 : decode cX3_toReceiver 36 = .ok (.goto (-28), 3) := by decide +kernel
theorem dX3_toReceiver_39 : decode cX3_toReceiver 39 = .ok (.iload_n 2, 1) := by decide +kernel
theorem dX3_toReceiver_40 : decode cX3_toReceiver 40 = .ok (.ireturn, 1) := by decide +kernel
theorem dX3_toSender_0 : decode cX3_toSender 0 = .ok (.iload_n 1, 1) := by decide +kernel
theorem dX3_toSender_1 : decode cX3_toSender 1 = .ok (.invokestatic 111, 3) := by decide +kernel
theorem dX3_toSender_4 : decode cX3_toSender 4 = .ok (.iconst 0, 1) := by decide +kernel
theorem dX3_toSender_5 : decode cX3_toSender 5 = .ok (.istore_n 2, 1) := by decide +kernel
theorem dX3_toSender_6 : decode cX3_toSender 6 = .ok (.iconst 0, 1) := by decide +kernel
theorem dX3_toSender_7 : decode cX3_toSender 7 = .ok (.istore_n 3, 1) := by decide +kernel
theorem dX3_toSender_8 : decode cX3_toSender 8 = .ok (.iload_n 3, 1) := by decide +kernel
theorem dX3_toSender_9 : decode cX3_toSender 9 = .ok (.iload_n 1, 1) := by decide +kernel
theorem dX3_toSender_10 : decode cX3_toSender 10 = .ok (.if_icmp .ge 29, 3) := by decide +kernel
theorem dX3_toSender_13 : decode cX3_toSender 13 = .ok (.aload_n 0, 1) := by decide +kernel
theorem dX3_toSender_14 : decode cX3_toSender 14 = .ok (.getfield 29, 3) := by decide +kernel
theorem dX3_toSender_17 : decode cX3_toSender 17 = .ok (.invokevirtual 115, 3) := by decide +kernel
theorem dX3_toSender_20 : decode cX3_toSender 20 = .ok (.ifCond .le 19, 3) := by decide +kernel
theorem dX3_toSender_23 : decode cX3_toSender 23 = .ok (.aload_n 0, 1) := by decide +kernel
theorem dX3_toSender_24 : decode cX3_toSender 24 = .ok (.invokevirtual 122, 3) := by decide +kernel
theorem dX3_toSender_27 : decode cX3_toSender 27 = .ok (.ifCond .eq 6, 3) := by decide +kernel
theorem dX3_toSender_30 : decode cX3_toSender 30 = .ok (.iinc 2 1, 3) := by decide +kernel
theorem dX3_toSender_33 : decode cX3_toSender 33 = .ok (.iinc 3 1, 3) := by decide +kernel
theorem dX3_toSender_36 : decode cX3_toSender 36 = .ok (.goto (-28), 3) := by decide +kernel
theorem dX3_toSender_39 : decode cX3_toSender 39 = .ok (.iload_n 2, 1) := by decide +kernel
theorem dX3_toSender_40 : decode cX3_toSender 40 = .ok (.ireturn, 1) := by decide +kernel
theorem dX3_decide_0 : decode cX3_decide 0 = .ok (.aload_n 0, 1) := by decide +kernel
theorem dX3_decide_1 : decode cX3_decide 1 = .ok (.iload_n 1, 1) := by decide +kernel
theorem dX3_decide_2 : decode cX3_decide 2 = .ok (.invokevirtual 125, 3) := by decide +kernel
theorem dX3_decide_5 : decode cX3_decide 5 = .ok (.astore_n 3, 1) := by decide +kernel
theorem dX3_decide_6 : decode cX3_decide 6 = .ok (.iload_n 2, 1) := by decide +kernel
theorem dX3_decide_7 : decode cX3_decide 7 = .ok (.invokestatic 129, 3) := by decide +kernel
theorem dX3_decide_10 : decode cX3_decide 10 = .ok (.aload_n 0, 1) := by decide +kernel
theorem dX3_decide_11 : decode cX3_decide 11 = .ok (.invokevirtual 63, 3) := by decide +kernel
theorem dX3_decide_14 : decode cX3_decide 14 = .ok (.aload_n 3, 1) := by decide +kernel
theorem dX3_decide_15 : decode cX3_decide 15 = .ok (.invokestatic 132, 3) := by decide +kernel
theorem dX3_decide_18 : decode cX3_decide 18 = .ok (.aload_n 0, 1) := by decide +kernel
theorem dX3_decide_19 : decode cX3_decide 19 = .ok (.aload_n 3, 1) := by decide +kernel
theorem dX3_decide_20 : decode cX3_decide 20 = .ok (.iload_n 2, 1) := by decide +kernel
theorem dX3_decide_21 : decode cX3_decide 21 = .ok (.invokevirtual 136, 3) := by decide +kernel
theorem dX3_decide_24 : decode cX3_decide 24 = .ok (.aload_n 3, 1) := by decide +kernel
theorem dX3_decide_25 : decode cX3_decide 25 = .ok (.getfield 139, 3) := by decide +kernel
theorem dX3_decide_28 : decode cX3_decide 28 = .ok (.ireturn, 1) := by decide +kernel
theorem dX3_deliveries_0 : decode cX3_deliveries 0 = .ok (.aload_n 0, 1) := by decide +kernel
theorem dX3_deliveries_1 : decode cX3_deliveries 1 = .ok (.getfield 18, 3) := by decide +kernel
theorem dX3_deliveries_4 : decode cX3_deliveries 4 = .ok (.invokevirtual 83, 3) := by decide +kernel
theorem dX3_deliveries_7 : decode cX3_deliveries 7 = .ok (.ireturn, 1) := by decide +kernel
theorem dX3_underWay_0 : decode cX3_underWay 0 = .ok (.aload_n 0, 1) := by decide +kernel
theorem dX3_underWay_1 : decode cX3_underWay 1 = .ok (.getfield 25, 3) := by decide +kernel
theorem dX3_underWay_4 : decode cX3_underWay 4 = .ok (.invokevirtual 115, 3) := by decide +kernel
theorem dX3_underWay_7 : decode cX3_underWay 7 = .ok (.ireturn, 1) := by decide +kernel
theorem dX3_backUnderWay_0 : decode cX3_backUnderWay 0 = .ok (.aload_n 0, 1) := by decide +kernel
theorem dX3_backUnderWay_1 : decode cX3_backUnderWay 1 = .ok (.getfield 29, 3) := by decide +kernel
theorem dX3_backUnderWay_4 : decode cX3_backUnderWay 4 = .ok (.invokevirtual 115, 3) := by decide +kernel
theorem dX3_backUnderWay_7 : decode cX3_backUnderWay 7 = .ok (.ireturn, 1) := by decide +kernel
theorem dX3_forSender_0 : decode cX3_forSender 0 = .ok (.aload_n 0, 1) := by decide +kernel
theorem dX3_forSender_1 : decode cX3_forSender 1 = .ok (.iload_n 1, 1) := by decide +kernel
theorem dX3_forSender_2 : decode cX3_forSender 2 = .ok (.invokevirtual 125, 3) := by decide +kernel
theorem dX3_forSender_5 : decode cX3_forSender 5 = .ok (.getfield 142, 3) := by decide +kernel
theorem dX3_forSender_8 : decode cX3_forSender 8 = .ok (.ireturn, 1) := by decide +kernel
theorem dX3_heard_0 : decode cX3_heard 0 = .ok (.aload_n 0, 1) := by decide +kernel
theorem dX3_heard_1 : decode cX3_heard 1 = .ok (.iload_n 1, 1) := by decide +kernel
theorem dX3_heard_2 : decode cX3_heard 2 = .ok (.invokevirtual 125, 3) := by decide +kernel
theorem dX3_heard_5 : decode cX3_heard 5 = .ok (.getfield 145, 3) := by decide +kernel
theorem dX3_heard_8 : decode cX3_heard 8 = .ok (.ireturn, 1) := by decide +kernel
theorem dX3_forReceiver_0 : decode cX3_forReceiver 0 = .ok (.aload_n 0, 1) := by decide +kernel
theorem dX3_forReceiver_1 : decode cX3_forReceiver 1 = .ok (.iload_n 1, 1) := by decide +kernel
theorem dX3_forReceiver_2 : decode cX3_forReceiver 2 = .ok (.invokevirtual 125, 3) := by decide +kernel
theorem dX3_forReceiver_5 : decode cX3_forReceiver 5 = .ok (.getfield 148, 3) := by decide +kernel
theorem dX3_forReceiver_8 : decode cX3_forReceiver 8 = .ok (.ireturn, 1) := by decide +kernel
theorem dX3_effects_0 : decode cX3_effects 0 = .ok (.aload_n 0, 1) := by decide +kernel
theorem dX3_effects_1 : decode cX3_effects 1 = .ok (.iload_n 1, 1) := by decide +kernel
theorem dX3_effects_2 : decode cX3_effects 2 = .ok (.invokevirtual 125, 3) := by decide +kernel
theorem dX3_effects_5 : decode cX3_effects 5 = .ok (.getfield 139, 3) := by decide +kernel
theorem dX3_effects_8 : decode cX3_effects 8 = .ok (.ireturn, 1) := by decide +kernel
theorem dX3_breakOff_0 : decode cX3_breakOff 0 = .ok (.aload_n 0, 1) := by decide +kernel
theorem dX3_breakOff_1 : decode cX3_breakOff 1 = .ok (.invokevirtual 63, 3) := by decide +kernel
theorem dX3_breakOff_4 : decode cX3_breakOff 4 = .ok (.aload_n 0, 1) := by decide +kernel
theorem dX3_breakOff_5 : decode cX3_breakOff 5 = .ok (.getfield 25, 3) := by decide +kernel
theorem dX3_breakOff_8 : decode cX3_breakOff 8 = .ok (.invokevirtual 115, 3) := by decide +kernel
theorem dX3_breakOff_11 : decode cX3_breakOff 11 = .ok (.aload_n 0, 1) := by decide +kernel
theorem dX3_breakOff_12 : decode cX3_breakOff 12 = .ok (.getfield 29, 3) := by decide +kernel
theorem dX3_breakOff_15 : decode cX3_breakOff 15 = .ok (.invokevirtual 115, 3) := by decide +kernel
theorem dX3_breakOff_18 : decode cX3_breakOff 18 = .ok (.iadd, 1) := by decide +kernel
theorem dX3_breakOff_19 : decode cX3_breakOff 19 = .ok (.istore_n 1, 1) := by decide +kernel
theorem dX3_breakOff_20 : decode cX3_breakOff 20 = .ok (.aload_n 0, 1) := by decide +kernel
theorem dX3_breakOff_21 : decode cX3_breakOff 21 = .ok (.getfield 25, 3) := by decide +kernel
theorem dX3_breakOff_24 : decode cX3_breakOff 24 = .ok (.invokevirtual 151, 3) := by decide +kernel
theorem dX3_breakOff_27 : decode cX3_breakOff 27 = .ok (.aload_n 0, 1) := by decide +kernel
theorem dX3_breakOff_28 : decode cX3_breakOff 28 = .ok (.getfield 29, 3) := by decide +kernel
theorem dX3_breakOff_31 : decode cX3_breakOff 31 = .ok (.invokevirtual 151, 3) := by decide +kernel
theorem dX3_breakOff_34 : decode cX3_breakOff 34 = .ok (.aload_n 0, 1) := by decide +kernel
theorem dX3_breakOff_35 : decode cX3_breakOff 35 = .ok (.invokevirtual 154, 3) := by decide +kernel
theorem dX3_breakOff_38 : decode cX3_breakOff 38 = .ok (.aload_n 0, 1) := by decide +kernel
theorem dX3_breakOff_39 : decode cX3_breakOff 39 = .ok (.iconst 0, 1) := by decide +kernel
theorem dX3_breakOff_40 : decode cX3_breakOff 40 = .ok (.putfield 35, 3) := by decide +kernel
theorem dX3_breakOff_43 : decode cX3_breakOff 43 = .ok (.iload_n 1, 1) := by decide +kernel
theorem dX3_breakOff_44 : decode cX3_breakOff 44 = .ok (.ireturn, 1) := by decide +kernel
theorem dX3_join_0 : decode cX3_join 0 = .ok (.aload_n 0, 1) := by decide +kernel
theorem dX3_join_1 : decode cX3_join 1 = .ok (.getfield 35, 3) := by decide +kernel
theorem dX3_join_4 : decode cX3_join 4 = .ok (.ifCond .eq 13, 3) := by decide +kernel
theorem dX3_join_7 : decode cX3_join 7 = .ok (.new 86, 3) := by decide +kernel
theorem dX3_join_10 : decode cX3_join 10 = .ok (.dup, 1) := by decide +kernel
theorem dX3_join_11 : decode cX3_join 11 = .ok (.ldc 157, 2) := by decide +kernel
theorem dX3_join_13 : decode cX3_join 13 = .ok (.invokespecial 90, 3) := by decide +kernel
theorem dX3_join_16 : decode cX3_join 16 = .ok (.athrow, 1) := by decide +kernel
theorem dX3_join_17 : decode cX3_join 17 = .ok (.aload_n 0, 1) := by decide +kernel
theorem dX3_join_18 : decode cX3_join 18 = .ok (.iconst 1, 1) := by decide +kernel
theorem dX3_join_19 : decode cX3_join 19 = .ok (.putfield 35, 3) := by decide +kernel
theorem dX3_join_22 : decode cX3_join 22 = .ok (.aload_n 0, 1) := by decide +kernel
theorem dX3_join_23 : decode cX3_join 23 = .ok (.getfield 11, 3) := by decide +kernel
theorem dX3_join_26 : decode cX3_join 26 = .ok (.astore_n 1, 1) := by decide +kernel
theorem dX3_join_27 : decode cX3_join 27 = .ok (.aload_n 1, 1) := by decide +kernel
theorem dX3_join_28 : decode cX3_join 28 = .ok (.arraylength, 1) := by decide +kernel
theorem dX3_join_29 : decode cX3_join 29 = .ok (.istore_n 2, 1) := by decide +kernel
theorem dX3_join_30 : decode cX3_join 30 = .ok (.iconst 0, 1) := by decide +kernel
theorem dX3_join_31 : decode cX3_join 31 = .ok (.istore_n 3, 1) := by decide +kernel
theorem dX3_join_32 : decode cX3_join 32 = .ok (.iload_n 3, 1) := by decide +kernel
theorem dX3_join_33 : decode cX3_join 33 = .ok (.iload_n 2, 1) := by decide +kernel
theorem dX3_join_34 : decode cX3_join 34 = .ok (.if_icmp .ge 19, 3) := by decide +kernel
theorem dX3_join_37 : decode cX3_join 37 = .ok (.aload_n 1, 1) := by decide +kernel
theorem dX3_join_38 : decode cX3_join 38 = .ok (.iload_n 3, 1) := by decide +kernel
theorem dX3_join_39 : decode cX3_join 39 = .ok (.aaload, 1) := by decide +kernel
theorem dX3_join_40 : decode cX3_join 40 = .ok (.astore 4, 2) := by decide +kernel
theorem dX3_join_42 : decode cX3_join 42 = .ok (.aload 4, 2) := by decide +kernel
theorem dX3_join_44 : decode cX3_join 44 = .ok (.invokevirtual 159, 3) := by decide +kernel
theorem dX3_join_47 : decode cX3_join 47 = .ok (.iinc 3 1, 3) := by decide +kernel
theorem dX3_join_50 : decode cX3_join 50 = .ok (.goto (-18), 3) := by decide +kernel
theorem dX3_join_53 : decode cX3_join 53 = .ok (.iconst 0, 1) := by decide +kernel
theorem dX3_join_54 : decode cX3_join 54 = .ok (.istore_n 1, 1) := by decide +kernel
theorem dX3_join_55 : decode cX3_join 55 = .ok (.iconst 0, 1) := by decide +kernel
theorem dX3_join_56 : decode cX3_join 56 = .ok (.istore_n 2, 1) := by decide +kernel
theorem dX3_join_57 : decode cX3_join 57 = .ok (.iload_n 2, 1) := by decide +kernel
theorem dX3_join_58 : decode cX3_join 58 = .ok (.aload_n 0, 1) := by decide +kernel
theorem dX3_join_59 : decode cX3_join 59 = .ok (.getfield 18, 3) := by decide +kernel
theorem dX3_join_62 : decode cX3_join 62 = .ok (.invokevirtual 83, 3) := by decide +kernel
theorem dX3_join_65 : decode cX3_join 65 = .ok (.if_icmp .ge 41, 3) := by decide +kernel
theorem dX3_join_68 : decode cX3_join 68 = .ok (.aload_n 0, 1) := by decide +kernel
theorem dX3_join_69 : decode cX3_join 69 = .ok (.getfield 18, 3) := by decide +kernel
theorem dX3_join_72 : decode cX3_join 72 = .ok (.iload_n 2, 1) := by decide +kernel
theorem dX3_join_73 : decode cX3_join 73 = .ok (.invokevirtual 162, 3) := by decide +kernel
theorem dX3_join_76 : decode cX3_join 76 = .ok (.checkcast 93, 3) := by decide +kernel
theorem dX3_join_79 : decode cX3_join 79 = .ok (.astore_n 3, 1) := by decide +kernel
theorem dX3_join_80 : decode cX3_join 80 = .ok (.aload_n 3, 1) := by decide +kernel
theorem dX3_join_81 : decode cX3_join 81 = .ok (.invokevirtual 166, 3) := by decide +kernel
theorem dX3_join_84 : decode cX3_join 84 = .ok (.aload_n 3, 1) := by decide +kernel
theorem dX3_join_85 : decode cX3_join 85 = .ok (.invokevirtual 169, 3) := by decide +kernel
theorem dX3_join_88 : decode cX3_join 88 = .ok (.ifCond .eq 12, 3) := by decide +kernel
theorem dX3_join_91 : decode cX3_join 91 = .ok (.aload_n 0, 1) := by decide +kernel
theorem dX3_join_92 : decode cX3_join 92 = .ok (.aload_n 3, 1) := by decide +kernel
theorem dX3_join_93 : decode cX3_join 93 = .ok (.iconst 1, 1) := by decide +kernel
theorem dX3_join_94 : decode cX3_join 94 = .ok (.invokevirtual 104, 3) := by decide +kernel
theorem dX3_join_97 : decode cX3_join 97 = .ok (.iinc 1 1, 3) := by decide +kernel
theorem dX3_join_100 : decode cX3_join 100 = .ok (.iinc 2 1, 3) := by decide +kernel
theorem dX3_join_103 : decode cX3_join 103 = .ok (.goto (-46), 3) := by decide +kernel
theorem dX3_join_106 : decode cX3_join 106 = .ok (.iload_n 1, 1) := by decide +kernel
theorem dX3_join_107 : decode cX3_join 107 = .ok (.ireturn, 1) := by decide +kernel
theorem dX3_wouldResend_0 : decode cX3_wouldResend 0 = .ok (.iconst 0, 1) := by decide +kernel
theorem dX3_wouldResend_1 : decode cX3_wouldResend 1 = .ok (.istore_n 1, 1) := by decide +kernel
theorem dX3_wouldResend_2 : decode cX3_wouldResend 2 = .ok (.iconst 0, 1) := by decide +kernel
theorem dX3_wouldResend_3 : decode cX3_wouldResend 3 = .ok (.istore_n 2, 1) := by decide +kernel
theorem dX3_wouldResend_4 : decode cX3_wouldResend 4 = .ok (.iload_n 2, 1) := by decide +kernel
theorem dX3_wouldResend_5 : decode cX3_wouldResend 5 = .ok (.aload_n 0, 1) := by decide +kernel
theorem dX3_wouldResend_6 : decode cX3_wouldResend 6 = .ok (.getfield 18, 3) := by decide +kernel
theorem dX3_wouldResend_9 : decode cX3_wouldResend 9 = .ok (.invokevirtual 83, 3) := by decide +kernel
theorem dX3_wouldResend_12 : decode cX3_wouldResend 12 = .ok (.if_icmp .ge 29, 3) := by decide +kernel
theorem dX3_wouldResend_15 : decode cX3_wouldResend 15 = .ok (.aload_n 0, 1) := by decide +kernel
theorem dX3_wouldResend_16 : decode cX3_wouldResend 16 = .ok (.getfield 18, 3) := by decide +kernel
theorem dX3_wouldResend_19 : decode cX3_wouldResend 19 = .ok (.iload_n 2, 1) := by decide +kernel
theorem dX3_wouldResend_20 : decode cX3_wouldResend 20 = .ok (.invokevirtual 162, 3) := by decide +kernel
theorem dX3_wouldResend_23 : decode cX3_wouldResend 23 = .ok (.checkcast 93, 3) := by decide +kernel
theorem dX3_wouldResend_26 : decode cX3_wouldResend 26 = .ok (.invokevirtual 169, 3) := by decide +kernel
theorem dX3_wouldResend_29 : decode cX3_wouldResend 29 = .ok (.ifCond .eq 6, 3) := by decide +kernel
theorem dX3_wouldResend_32 : decode cX3_wouldResend 32 = .ok (.iinc 1 1, 3) := by decide +kernel
theorem dX3_wouldResend_35 : decode cX3_wouldResend 35 = .ok (.iinc 2 1, 3) := by decide +kernel
theorem dX3_wouldResend_38 : decode cX3_wouldResend 38 = .ok (.goto (-34), 3) := by decide +kernel
theorem dX3_wouldResend_41 : decode cX3_wouldResend 41 = .ok (.iload_n 1, 1) := by decide +kernel
theorem dX3_wouldResend_42 : decode cX3_wouldResend 42 = .ok (.ireturn, 1) := by decide +kernel
theorem dX3_isUp_0 : decode cX3_isUp 0 = .ok (.aload_n 0, 1) := by decide +kernel
theorem dX3_isUp_1 : decode cX3_isUp 1 = .ok (.getfield 35, 3) := by decide +kernel
theorem dX3_isUp_4 : decode cX3_isUp 4 = .ok (.ireturn, 1) := by decide +kernel
theorem dX3_begin_0 : decode cX3_begin 0 = .ok (.aload_n 0, 1) := by decide +kernel
theorem dX3_begin_1 : decode cX3_begin 1 = .ok (.invokevirtual 63, 3) := by decide +kernel
theorem dX3_begin_4 : decode cX3_begin 4 = .ok (.aload_n 0, 1) := by decide +kernel
theorem dX3_begin_5 : decode cX3_begin 5 = .ok (.getfield 39, 3) := by decide +kernel
theorem dX3_begin_8 : decode cX3_begin 8 = .ok (.ifCond .eq 13, 3) := by decide +kernel
theorem dX3_begin_11 : decode cX3_begin 11 = .ok (.new 86, 3) := by decide +kernel
theorem dX3_begin_14 : decode cX3_begin 14 = .ok (.dup, 1) := by decide +kernel
theorem dX3_begin_15 : decode cX3_begin 15 = .ok (.ldc 172, 2) := by decide +kernel
theorem dX3_begin_17 : decode cX3_begin 17 = .ok (.invokespecial 90, 3) := by decide +kernel
theorem dX3_begin_20 : decode cX3_begin 20 = .ok (.athrow, 1) := by decide +kernel
theorem dX3_begin_21 : decode cX3_begin 21 = .ok (.aload_n 0, 1) := by decide +kernel
theorem dX3_begin_22 : decode cX3_begin 22 = .ok (.iconst 1, 1) := by decide +kernel
theorem dX3_begin_23 : decode cX3_begin 23 = .ok (.putfield 39, 3) := by decide +kernel
theorem dX3_begin_26 : decode cX3_begin 26 = .ok (.aload_n 0, 1) := by decide +kernel
theorem dX3_begin_27 : decode cX3_begin 27 = .ok (.dup, 1) := by decide +kernel
theorem dX3_begin_28 : decode cX3_begin 28 = .ok (.getfield 42, 3) := by decide +kernel
theorem dX3_begin_31 : decode cX3_begin 31 = .ok (.iconst 1, 1) := by decide +kernel
theorem dX3_begin_32 : decode cX3_begin 32 = .ok (.iadd, 1) := by decide +kernel
theorem dX3_begin_33 : decode cX3_begin 33 = .ok (.putfield 42, 3) := by decide +kernel
theorem dX3_begin_36 : decode cX3_begin 36 = .ok (.aload_n 0, 1) := by decide +kernel
theorem dX3_begin_37 : decode cX3_begin 37 = .ok (.getfield 42, 3) := by decide +kernel
theorem dX3_begin_40 : decode cX3_begin 40 = .ok (.ireturn, 1) := by decide +kernel
theorem dX3_tell_0 : decode cX3_tell 0 = .ok (.aload_n 0, 1) := by decide +kernel
theorem dX3_tell_1 : decode cX3_tell 1 = .ok (.iload_n 1, 1) := by decide +kernel
theorem dX3_tell_2 : decode cX3_tell 2 = .ok (.invokevirtual 125, 3) := by decide +kernel
theorem dX3_tell_5 : decode cX3_tell 5 = .ok (.astore_n 3, 1) := by decide +kernel
theorem dX3_tell_6 : decode cX3_tell 6 = .ok (.iload_n 2, 1) := by decide +kernel
theorem dX3_tell_7 : decode cX3_tell 7 = .ok (.invokestatic 129, 3) := by decide +kernel
theorem dX3_tell_10 : decode cX3_tell 10 = .ok (.aload_n 0, 1) := by decide +kernel
theorem dX3_tell_11 : decode cX3_tell 11 = .ok (.invokevirtual 174, 3) := by decide +kernel
theorem dX3_tell_14 : decode cX3_tell 14 = .ok (.aload_n 3, 1) := by decide +kernel
theorem dX3_tell_15 : decode cX3_tell 15 = .ok (.invokestatic 132, 3) := by decide +kernel
theorem dX3_tell_18 : decode cX3_tell 18 = .ok (.aload_n 3, 1) := by decide +kernel
theorem dX3_tell_19 : decode cX3_tell 19 = .ok (.iload_n 2, 1) := by decide +kernel
theorem dX3_tell_20 : decode cX3_tell 20 = .ok (.putfield 177, 3) := by decide +kernel
theorem dX3_tell_23 : decode cX3_tell 23 = .ok (.aload_n 0, 1) := by decide +kernel
theorem dX3_tell_24 : decode cX3_tell 24 = .ok (.getfield 32, 3) := by decide +kernel
theorem dX3_tell_27 : decode cX3_tell 27 = .ok (.aload_n 3, 1) := by decide +kernel
theorem dX3_tell_28 : decode cX3_tell 28 = .ok (.invokevirtual 98, 3) := by decide +kernel
theorem dX3_tell_31 : decode cX3_tell 31 = .ok (.pop, 1) := by decide +kernel
theorem dX3_tell_32 : decode cX3_tell 32 = .ok (.aload_n 0, 1) := by decide +kernel
theorem dX3_tell_33 : decode cX3_tell 33 = .ok (.getfield 32, 3) := by decide +kernel
theorem dX3_tell_36 : decode cX3_tell 36 = .ok (.invokevirtual 83, 3) := by decide +kernel
theorem dX3_tell_39 : decode cX3_tell 39 = .ok (.ireturn, 1) := by decide +kernel
theorem dX3_end_0 : decode cX3_end 0 = .ok (.aload_n 0, 1) := by decide +kernel
theorem dX3_end_1 : decode cX3_end 1 = .ok (.invokevirtual 174, 3) := by decide +kernel
theorem dX3_end_4 : decode cX3_end 4 = .ok (.iconst 0, 1) := by decide +kernel
theorem dX3_end_5 : decode cX3_end 5 = .ok (.istore_n 2, 1) := by decide +kernel
theorem dX3_end_6 : decode cX3_end 6 = .ok (.iload_n 1, 1) := by decide +kernel
theorem dX3_end_7 : decode cX3_end 7 = .ok (.ifCond .eq 49, 3) := by decide +kernel
theorem dX3_end_10 : decode cX3_end 10 = .ok (.iconst 0, 1) := by decide +kernel
theorem dX3_end_11 : decode cX3_end 11 = .ok (.istore_n 3, 1) := by decide +kernel
theorem dX3_end_12 : decode cX3_end 12 = .ok (.iload_n 3, 1) := by decide +kernel
theorem dX3_end_13 : decode cX3_end 13 = .ok (.aload_n 0, 1) := by decide +kernel
theorem dX3_end_14 : decode cX3_end 14 = .ok (.getfield 32, 3) := by decide +kernel
theorem dX3_end_17 : decode cX3_end 17 = .ok (.invokevirtual 83, 3) := by decide +kernel
theorem dX3_end_20 : decode cX3_end 20 = .ok (.if_icmp .ge 36, 3) := by decide +kernel
theorem dX3_end_23 : decode cX3_end 23 = .ok (.aload_n 0, 1) := by decide +kernel
theorem dX3_end_24 : decode cX3_end 24 = .ok (.getfield 32, 3) := by decide +kernel
theorem dX3_end_27 : decode cX3_end 27 = .ok (.iload_n 3, 1) := by decide +kernel
theorem dX3_end_28 : decode cX3_end 28 = .ok (.invokevirtual 162, 3) := by decide +kernel
theorem dX3_end_31 : decode cX3_end 31 = .ok (.checkcast 93, 3) := by decide +kernel
theorem dX3_end_34 : decode cX3_end 34 = .ok (.astore 4, 2) := by decide +kernel
theorem dX3_end_36 : decode cX3_end 36 = .ok (.aload_n 0, 1) := by decide +kernel
theorem dX3_end_37 : decode cX3_end 37 = .ok (.aload 4, 2) := by decide +kernel
theorem dX3_end_39 : decode cX3_end 39 = .ok (.aload 4, 2) := by decide +kernel
theorem dX3_end_41 : decode cX3_end 41 = .ok (.getfield 177, 3) := by decide +kernel
theorem dX3_end_44 : decode cX3_end 44 = .ok (.invokevirtual 136, 3) := by decide +kernel
theorem dX3_end_47 : decode cX3_end 47 = .ok (.iinc 2 1, 3) := by decide +kernel
theorem dX3_end_50 : decode cX3_end 50 = .ok (.iinc 3 1, 3) := by decide +kernel
theorem dX3_end_53 : decode cX3_end 53 = .ok (.goto (-41), 3) := by decide +kernel
theorem dX3_end_56 : decode cX3_end 56 = .ok (.aload_n 0, 1) := by decide +kernel
theorem dX3_end_57 : decode cX3_end 57 = .ok (.invokevirtual 154, 3) := by decide +kernel
theorem dX3_end_60 : decode cX3_end 60 = .ok (.iload_n 2, 1) := by decide +kernel
theorem dX3_end_61 : decode cX3_end 61 = .ok (.ireturn, 1) := by decide +kernel
theorem dX3_linkAt_0 : decode cX3_linkAt 0 = .ok (.iload_n 1, 1) := by decide +kernel
theorem dX3_linkAt_1 : decode cX3_linkAt 1 = .ok (.ifCond .lt 8, 3) := by decide +kernel
theorem dX3_linkAt_4 : decode cX3_linkAt 4 = .ok (.iload_n 1, 1) := by decide +kernel
theorem dX3_linkAt_5 : decode cX3_linkAt 5 = .ok (.iconst 4, 1) := by decide +kernel
theorem dX3_linkAt_6 : decode cX3_linkAt 6 = .ok (.if_icmp .lt 13, 3) := by decide +kernel
theorem dX3_linkAt_9 : decode cX3_linkAt 9 = .ok (.new 180, 3) := by decide +kernel
theorem dX3_linkAt_12 : decode cX3_linkAt 12 = .ok (.dup, 1) := by decide +kernel
theorem dX3_linkAt_13 : decode cX3_linkAt 13 = .ok (.ldc 182, 2) := by decide +kernel
theorem dX3_linkAt_15 : decode cX3_linkAt 15 = .ok (.invokespecial 184, 3) := by decide +kernel
theorem dX3_linkAt_18 : decode cX3_linkAt 18 = .ok (.athrow, 1) := by decide +kernel
theorem dX3_linkAt_19 : decode cX3_linkAt 19 = .ok (.aload_n 0, 1) := by decide +kernel
theorem dX3_linkAt_20 : decode cX3_linkAt 20 = .ok (.getfield 11, 3) := by decide +kernel
theorem dX3_linkAt_23 : decode cX3_linkAt 23 = .ok (.iload_n 1, 1) := by decide +kernel
theorem dX3_linkAt_24 : decode cX3_linkAt 24 = .ok (.aaload, 1) := by decide +kernel
theorem dX3_linkAt_25 : decode cX3_linkAt 25 = .ok (.areturn, 1) := by decide +kernel
theorem dX3_deliveryAt_0 : decode cX3_deliveryAt 0 = .ok (.iload_n 1, 1) := by decide +kernel
theorem dX3_deliveryAt_1 : decode cX3_deliveryAt 1 = .ok (.ifCond .lt 14, 3) := by decide +kernel
theorem dX3_deliveryAt_4 : decode cX3_deliveryAt 4 = .ok (.iload_n 1, 1) := by decide +kernel
theorem dX3_deliveryAt_5 : decode cX3_deliveryAt 5 = .ok (.aload_n 0, 1) := by decide +kernel
theorem dX3_deliveryAt_6 : decode cX3_deliveryAt 6 = .ok (.getfield 18, 3) := by decide +kernel
theorem dX3_deliveryAt_9 : decode cX3_deliveryAt 9 = .ok (.invokevirtual 83, 3) := by decide +kernel
theorem dX3_deliveryAt_12 : decode cX3_deliveryAt 12 = .ok (.if_icmp .lt 13, 3) := by decide +kernel
theorem dX3_deliveryAt_15 : decode cX3_deliveryAt 15 = .ok (.new 180, 3) := by decide +kernel
theorem dX3_deliveryAt_18 : decode cX3_deliveryAt 18 = .ok (.dup, 1) := by decide +kernel
theorem dX3_deliveryAt_19 : decode cX3_deliveryAt 19 = .ok (.ldc 185, 2) := by decide +kernel
theorem dX3_deliveryAt_21 : decode cX3_deliveryAt 21 = .ok (.invokespecial 184, 3) := by decide +kernel
theorem dX3_deliveryAt_24 : decode cX3_deliveryAt 24 = .ok (.athrow, 1) := by decide +kernel
theorem dX3_deliveryAt_25 : decode cX3_deliveryAt 25 = .ok (.aload_n 0, 1) := by decide +kernel
theorem dX3_deliveryAt_26 : decode cX3_deliveryAt 26 = .ok (.getfield 18, 3) := by decide +kernel
theorem dX3_deliveryAt_29 : decode cX3_deliveryAt 29 = .ok (.iload_n 1, 1) := by decide +kernel
theorem dX3_deliveryAt_30 : decode cX3_deliveryAt 30 = .ok (.invokevirtual 162, 3) := by decide +kernel
theorem dX3_deliveryAt_33 : decode cX3_deliveryAt 33 = .ok (.checkcast 93, 3) := by decide +kernel
theorem dX3_deliveryAt_36 : decode cX3_deliveryAt 36 = .ok (.areturn, 1) := by decide +kernel
theorem dX3_requireConnection_0 : decode cX3_requireConnection 0 = .ok (.aload_n 0, 1) := by decide +kernel
theorem dX3_requireConnection_1 : decode cX3_requireConnection 1 = .ok (.getfield 35, 3) := by decide +kernel
theorem dX3_requireConnection_4 : decode cX3_requireConnection 4 = .ok (.ifCond .ne 13, 3) := by decide +kernel
theorem dX3_requireConnection_7 : decode cX3_requireConnection 7 = .ok (.new 86, 3) := by decide +kernel
theorem dX3_requireConnection_10 : decode cX3_requireConnection 10 = .ok (.dup, 1) := by decide +kernel
theorem dX3_requireConnection_11 : decode cX3_requireConnection 11 = .ok (.ldc 187, 2) := by decide +kernel
theorem dX3_requireConnection_13 : decode cX3_requireConnection 13 = .ok (.invokespecial 90, 3) := by decide +kernel
theorem dX3_requireConnection_16 : decode cX3_requireConnection 16 = .ok (.athrow, 1) := by decide +kernel
theorem dX3_requireConnection_17 : decode cX3_requireConnection 17 = .ok (.return_, 1) := by decide +kernel
theorem dX3_requireTransaction_0 : decode cX3_requireTransaction 0 = .ok (.aload_n 0, 1) := by decide +kernel
theorem dX3_requireTransaction_1 : decode cX3_requireTransaction 1 = .ok (.getfield 39, 3) := by decide +kernel
theorem dX3_requireTransaction_4 : decode cX3_requireTransaction 4 = .ok (.ifCond .ne 13, 3) := by decide +kernel
theorem dX3_requireTransaction_7 : decode cX3_requireTransaction 7 = .ok (.new 86, 3) := by decide +kernel
theorem dX3_requireTransaction_10 : decode cX3_requireTransaction 10 = .ok (.dup, 1) := by decide +kernel
theorem dX3_requireTransaction_11 : decode cX3_requireTransaction 11 = .ok (.ldc 189, 2) := by decide +kernel
theorem dX3_requireTransaction_13 : decode cX3_requireTransaction 13 = .ok (.invokespecial 90, 3) := by decide +kernel
theorem dX3_requireTransaction_16 : decode cX3_requireTransaction 16 = .ok (.athrow, 1) := by decide +kernel
theorem dX3_requireTransaction_17 : decode cX3_requireTransaction 17 = .ok (.return_, 1) := by decide +kernel
theorem dX3_requireUndecided_0 : decode cX3_requireUndecided 0 = .ok (.aload_n 0, 1) := by decide +kernel
theorem dX3_requireUndecided_1 : decode cX3_requireUndecided 1 = .ok (.getfield 148, 3) := by decide +kernel
theorem dX3_requireUndecided_4 : decode cX3_requireUndecided 4 = .ok (.iconst 2, 1) := by decide +kernel
theorem dX3_requireUndecided_5 : decode cX3_requireUndecided 5 = .ok (.if_icmp .eq 13, 3) := by decide +kernel
theorem dX3_requireUndecided_8 : decode cX3_requireUndecided 8 = .ok (.new 86, 3) := by decide +kernel
theorem dX3_requireUndecided_11 : decode cX3_requireUndecided 11 = .ok (.dup, 1) := by decide +kernel
theorem dX3_requireUndecided_12 : decode cX3_requireUndecided 12 = .ok (.ldc 191, 2) := by decide +kernel
theorem dX3_requireUndecided_14 : decode cX3_requireUndecided 14 = .ok (.invokespecial 90, 3) := by decide +kernel
theorem dX3_requireUndecided_17 : decode cX3_requireUndecided 17 = .ok (.athrow, 1) := by decide +kernel
theorem dX3_requireUndecided_18 : decode cX3_requireUndecided 18 = .ok (.aload_n 0, 1) := by decide +kernel
theorem dX3_requireUndecided_19 : decode cX3_requireUndecided 19 = .ok (.getfield 177, 3) := by decide +kernel
theorem dX3_requireUndecided_22 : decode cX3_requireUndecided 22 = .ok (.iconst (-1), 1) := by decide +kernel
theorem dX3_requireUndecided_23 : decode cX3_requireUndecided 23 = .ok (.if_icmp .eq 13, 3) := by decide +kernel
theorem dX3_requireUndecided_26 : decode cX3_requireUndecided 26 = .ok (.new 86, 3) := by decide +kernel
theorem dX3_requireUndecided_29 : decode cX3_requireUndecided 29 = .ok (.dup, 1) := by decide +kernel
theorem dX3_requireUndecided_30 : decode cX3_requireUndecided 30 = .ok (.ldc 193, 2) := by decide +kernel
theorem dX3_requireUndecided_32 : decode cX3_requireUndecided 32 = .ok (.invokespecial 90, 3) := by decide +kernel
theorem dX3_requireUndecided_35 : decode cX3_requireUndecided 35 = .ok (.athrow, 1) := by decide +kernel
theorem dX3_requireUndecided_36 : decode cX3_requireUndecided 36 = .ok (.return_, 1) := by decide +kernel
theorem dX3_requireOutcome_0 : decode cX3_requireOutcome 0 = .ok (.iload_n 0, 1) := by decide +kernel
theorem dX3_requireOutcome_1 : decode cX3_requireOutcome 1 = .ok (.ifCond .lt 8, 3) := by decide +kernel
theorem dX3_requireOutcome_4 : decode cX3_requireOutcome 4 = .ok (.iload_n 0, 1) := by decide +kernel
theorem dX3_requireOutcome_5 : decode cX3_requireOutcome 5 = .ok (.iconst 2, 1) := by decide +kernel
theorem dX3_requireOutcome_6 : decode cX3_requireOutcome 6 = .ok (.if_icmp .le 13, 3) := by decide +kernel
theorem dX3_requireOutcome_9 : decode cX3_requireOutcome 9 = .ok (.new 51, 3) := by decide +kernel
theorem dX3_requireOutcome_12 : decode cX3_requireOutcome 12 = .ok (.dup, 1) := by decide +kernel
theorem dX3_requireOutcome_13 : decode cX3_requireOutcome 13 = .ok (.ldc 195, 2) := by decide +kernel
theorem dX3_requireOutcome_15 : decode cX3_requireOutcome 15 = .ok (.invokespecial 55, 3) := by decide +kernel
theorem dX3_requireOutcome_18 : decode cX3_requireOutcome 18 = .ok (.athrow, 1) := by decide +kernel
theorem dX3_requireOutcome_19 : decode cX3_requireOutcome 19 = .ok (.return_, 1) := by decide +kernel
theorem dX3_requireCount_0 : decode cX3_requireCount 0 = .ok (.iload_n 0, 1) := by decide +kernel
theorem dX3_requireCount_1 : decode cX3_requireCount 1 = .ok (.iconst 1, 1) := by decide +kernel
theorem dX3_requireCount_2 : decode cX3_requireCount 2 = .ok (.if_icmp .lt 9, 3) := by decide +kernel
theorem dX3_requireCount_5 : decode cX3_requireCount 5 = .ok (.iload_n 0, 1) := by decide +kernel
theorem dX3_requireCount_6 : decode cX3_requireCount 6 = .ok (.bipush 100, 2) := by decide +kernel
theorem dX3_requireCount_8 : decode cX3_requireCount 8 = .ok (.if_icmp .le 13, 3) := by decide +kernel
theorem dX3_requireCount_11 : decode cX3_requireCount 11 = .ok (.new 51, 3) := by decide +kernel
theorem dX3_requireCount_14 : decode cX3_requireCount 14 = .ok (.dup, 1) := by decide +kernel
theorem dX3_requireCount_15 : decode cX3_requireCount 15 = .ok (.ldc 197, 2) := by decide +kernel
theorem dX3_requireCount_17 : decode cX3_requireCount 17 = .ok (.invokespecial 55, 3) := by decide +kernel
theorem dX3_requireCount_20 : decode cX3_requireCount 20 = .ok (.athrow, 1) := by decide +kernel
theorem dX3_requireCount_21 : decode cX3_requireCount 21 = .ok (.return_, 1) := by decide +kernel
theorem dX3_wrapped_0 : decode cX3_wrapped 0 = .ok (.iload_n 0, 1) := by decide +kernel
theorem dX3_wrapped_1 : decode cX3_wrapped 1 = .ok (.bipush 16, 2) := by decide +kernel
theorem dX3_wrapped_3 : decode cX3_wrapped 3 = .ok (.invokestatic 199, 3) := by decide +kernel
theorem dX3_wrapped_6 : decode cX3_wrapped 6 = .ok (.ireturn, 1) := by decide +kernel
theorem dX3_addParts_0 : decode cX3_addParts 0 = .ok (.iconst 0, 1) := by decide +kernel
theorem dX3_addParts_1 : decode cX3_addParts 1 = .ok (.istore_n 3, 1) := by decide +kernel
theorem dX3_addParts_2 : decode cX3_addParts 2 = .ok (.iload_n 3, 1) := by decide +kernel
theorem dX3_addParts_3 : decode cX3_addParts 3 = .ok (.aload_n 1, 1) := by decide +kernel
theorem dX3_addParts_4 : decode cX3_addParts 4 = .ok (.getfield 205, 3) := by decide +kernel
theorem dX3_addParts_7 : decode cX3_addParts 7 = .ok (.if_icmp .ge 22, 3) := by decide +kernel
theorem dX3_addParts_10 : decode cX3_addParts 10 = .ok (.aload_n 0, 1) := by decide +kernel
theorem dX3_addParts_11 : decode cX3_addParts 11 = .ok (.getfield 25, 3) := by decide +kernel
theorem dX3_addParts_14 : decode cX3_addParts 14 = .ok (.iload_n 2, 1) := by decide +kernel
theorem dX3_addParts_15 : decode cX3_addParts 15 = .ok (.aload_n 1, 1) := by decide +kernel
theorem dX3_addParts_16 : decode cX3_addParts 16 = .ok (.getfield 108, 3) := by decide +kernel
theorem dX3_addParts_19 : decode cX3_addParts 19 = .ok (.iload_n 3, 1) := by decide +kernel
theorem dX3_addParts_20 : decode cX3_addParts 20 = .ok (.invokevirtual 73, 3) := by decide +kernel
theorem dX3_addParts_23 : decode cX3_addParts 23 = .ok (.iinc 3 1, 3) := by decide +kernel
theorem dX3_addParts_26 : decode cX3_addParts 26 = .ok (.goto (-24), 3) := by decide +kernel
theorem dX3_addParts_29 : decode cX3_addParts 29 = .ok (.return_, 1) := by decide +kernel
theorem dX3_receiverTakesFrame_0 : decode cX3_receiverTakesFrame 0 = .ok (.aload_n 0, 1) := by decide +kernel
theorem dX3_receiverTakesFrame_1 : decode cX3_receiverTakesFrame 1 = .ok (.getfield 25, 3) := by decide +kernel
theorem dX3_receiverTakesFrame_4 : decode cX3_receiverTakesFrame 4 = .ok (.invokevirtual 208, 3) := by decide +kernel
theorem dX3_receiverTakesFrame_7 : decode cX3_receiverTakesFrame 7 = .ok (.istore_n 1, 1) := by decide +kernel
theorem dX3_receiverTakesFrame_8 : decode cX3_receiverTakesFrame 8 = .ok (.aload_n 0, 1) := by decide +kernel
theorem dX3_receiverTakesFrame_9 : decode cX3_receiverTakesFrame 9 = .ok (.aload_n 0, 1) := by decide +kernel
theorem dX3_receiverTakesFrame_10 : decode cX3_receiverTakesFrame 10 = .ok (.getfield 25, 3) := by decide +kernel
theorem dX3_receiverTakesFrame_13 : decode cX3_receiverTakesFrame 13 = .ok (.invokevirtual 211, 3) := by decide +kernel
theorem dX3_receiverTakesFrame_16 : decode cX3_receiverTakesFrame 16 = .ok (.invokevirtual 125, 3) := by decide +kernel
theorem dX3_receiverTakesFrame_19 : decode cX3_receiverTakesFrame 19 = .ok (.astore_n 2, 1) := by decide +kernel
theorem dX3_receiverTakesFrame_20 : decode cX3_receiverTakesFrame 20 = .ok (.aload_n 0, 1) := by decide +kernel
theorem dX3_receiverTakesFrame_21 : decode cX3_receiverTakesFrame 21 = .ok (.getfield 25, 3) := by decide +kernel
theorem dX3_receiverTakesFrame_24 : decode cX3_receiverTakesFrame 24 = .ok (.invokevirtual 214, 3) := by decide +kernel
theorem dX3_receiverTakesFrame_27 : decode cX3_receiverTakesFrame 27 = .ok (.istore_n 3, 1) := by decide +kernel
theorem dX3_receiverTakesFrame_28 : decode cX3_receiverTakesFrame 28 = .ok (.aload_n 0, 1) := by decide +kernel
theorem dX3_receiverTakesFrame_29 : decode cX3_receiverTakesFrame 29 = .ok (.getfield 25, 3) := by decide +kernel
theorem dX3_receiverTakesFrame_32 : decode cX3_receiverTakesFrame 32 = .ok (.invokevirtual 217, 3) := by decide +kernel
theorem dX3_receiverTakesFrame_35 : decode cX3_receiverTakesFrame 35 = .ok (.iload_n 1, 1) := by decide +kernel
theorem dX3_receiverTakesFrame_36 : decode cX3_receiverTakesFrame 36 = .ok (.iconst 2, 1) := by decide +kernel
theorem dX3_receiverTakesFrame_37 : decode cX3_receiverTakesFrame 37 = .ok (.if_icmp .ne 9, 3) := by decide +kernel
theorem dX3_receiverTakesFrame_40 : decode cX3_receiverTakesFrame 40 = .ok (.aload_n 2, 1) := by decide +kernel
theorem dX3_receiverTakesFrame_41 : decode cX3_receiverTakesFrame 41 = .ok (.invokevirtual 220, 3) := by decide +kernel
theorem dX3_receiverTakesFrame_44 : decode cX3_receiverTakesFrame 44 = .ok (.iconst 0, 1) := by decide +kernel
theorem dX3_receiverTakesFrame_45 : decode cX3_receiverTakesFrame 45 = .ok (.ireturn, 1) := by decide +kernel
theorem dX3_receiverTakesFrame_46 : decode cX3_receiverTakesFrame 46 = .ok (.iload_n 1, 1) := by decide +kernel
theorem dX3_receiverTakesFrame_47 : decode cX3_receiverTakesFrame 47 = .ok (.ifCond .ne 18, 3) := by decide +kernel
theorem dX3_receiverTakesFrame_50 : decode cX3_receiverTakesFrame 50 = .ok (.iload_n 3, 1) := by decide +kernel
theorem dX3_receiverTakesFrame_51 : decode cX3_receiverTakesFrame 51 = .ok (.ifCond .ne 14, 3) := by decide +kernel
theorem dX3_receiverTakesFrame_54 : decode cX3_receiverTakesFrame 54 = .ok (.aload_n 0, 1) := by decide +kernel
theorem dX3_receiverTakesFrame_55 : decode cX3_receiverTakesFrame 55 = .ok (.aload_n 2, 1) := by decide +kernel
theorem dX3_receiverTakesFrame_56 : decode cX3_receiverTakesFrame 56 = .ok (.getfield 223, 3) := by decide +kernel
theorem dX3_receiverTakesFrame_59 : decode cX3_receiverTakesFrame 59 = .ok (.invokevirtual 47, 3) := by decide +kernel
theorem dX3_receiverTakesFrame_62 : decode cX3_receiverTakesFrame 62 = .ok (.invokevirtual 226, 3) := by decide +kernel
theorem dX3_receiverTakesFrame_65 : decode cX3_receiverTakesFrame 65 = .ok (.aload_n 2, 1) := by decide +kernel
theorem dX3_receiverTakesFrame_66 : decode cX3_receiverTakesFrame 66 = .ok (.iload_n 3, 1) := by decide +kernel
theorem dX3_receiverTakesFrame_67 : decode cX3_receiverTakesFrame 67 = .ok (.invokevirtual 229, 3) := by decide +kernel
theorem dX3_receiverTakesFrame_70 : decode cX3_receiverTakesFrame 70 = .ok (.ireturn, 1) := by decide +kernel
theorem dX3_senderTakesFrame_0 : decode cX3_senderTakesFrame 0 = .ok (.aload_n 0, 1) := by decide +kernel
theorem dX3_senderTakesFrame_1 : decode cX3_senderTakesFrame 1 = .ok (.getfield 29, 3) := by decide +kernel
theorem dX3_senderTakesFrame_4 : decode cX3_senderTakesFrame 4 = .ok (.invokevirtual 208, 3) := by decide +kernel
theorem dX3_senderTakesFrame_7 : decode cX3_senderTakesFrame 7 = .ok (.istore_n 1, 1) := by decide +kernel
theorem dX3_senderTakesFrame_8 : decode cX3_senderTakesFrame 8 = .ok (.aload_n 0, 1) := by decide +kernel
theorem dX3_senderTakesFrame_9 : decode cX3_senderTakesFrame 9 = .ok (.getfield 29, 3) := by decide +kernel
theorem dX3_senderTakesFrame_12 : decode cX3_senderTakesFrame 12 = .ok (.invokevirtual 211, 3) := by decide +kernel
theorem dX3_senderTakesFrame_15 : decode cX3_senderTakesFrame 15 = .ok (.istore_n 2, 1) := by decide +kernel
theorem dX3_senderTakesFrame_16 : decode cX3_senderTakesFrame 16 = .ok (.aload_n 0, 1) := by decide +kernel
theorem dX3_senderTakesFrame_17 : decode cX3_senderTakesFrame 17 = .ok (.getfield 29, 3) := by decide +kernel
theorem dX3_senderTakesFrame_20 : decode cX3_senderTakesFrame 20 = .ok (.invokevirtual 214, 3) := by decide +kernel
theorem dX3_senderTakesFrame_23 : decode cX3_senderTakesFrame 23 = .ok (.istore_n 3, 1) := by decide +kernel
theorem dX3_senderTakesFrame_24 : decode cX3_senderTakesFrame 24 = .ok (.aload_n 0, 1) := by decide +kernel
theorem dX3_senderTakesFrame_25 : decode cX3_senderTakesFrame 25 = .ok (.getfield 29, 3) := by decide +kernel
theorem dX3_senderTakesFrame_28 : decode cX3_senderTakesFrame 28 = .ok (.invokevirtual 217, 3) := by decide +kernel
theorem dX3_senderTakesFrame_31 : decode cX3_senderTakesFrame 31 = .ok (.iload_n 1, 1) := by decide +kernel
theorem dX3_senderTakesFrame_32 : decode cX3_senderTakesFrame 32 = .ok (.iconst 3, 1) := by decide +kernel
theorem dX3_senderTakesFrame_33 : decode cX3_senderTakesFrame 33 = .ok (.if_icmp .ne 14, 3) := by decide +kernel
theorem dX3_senderTakesFrame_36 : decode cX3_senderTakesFrame 36 = .ok (.aload_n 0, 1) := by decide +kernel
theorem dX3_senderTakesFrame_37 : decode cX3_senderTakesFrame 37 = .ok (.iload_n 2, 1) := by decide +kernel
theorem dX3_senderTakesFrame_38 : decode cX3_senderTakesFrame 38 = .ok (.invokevirtual 47, 3) := by decide +kernel
theorem dX3_senderTakesFrame_41 : decode cX3_senderTakesFrame 41 = .ok (.iload_n 3, 1) := by decide +kernel
theorem dX3_senderTakesFrame_42 : decode cX3_senderTakesFrame 42 = .ok (.putfield 233, 3) := by decide +kernel
theorem dX3_senderTakesFrame_45 : decode cX3_senderTakesFrame 45 = .ok (.iconst 0, 1) := by decide +kernel
theorem dX3_senderTakesFrame_46 : decode cX3_senderTakesFrame 46 = .ok (.ireturn, 1) := by decide +kernel
theorem dX3_senderTakesFrame_47 : decode cX3_senderTakesFrame 47 = .ok (.aload_n 0, 1) := by decide +kernel
theorem dX3_senderTakesFrame_48 : decode cX3_senderTakesFrame 48 = .ok (.iload_n 2, 1) := by decide +kernel
theorem dX3_senderTakesFrame_49 : decode cX3_senderTakesFrame 49 = .ok (.invokevirtual 125, 3) := by decide +kernel
theorem dX3_senderTakesFrame_52 : decode cX3_senderTakesFrame 52 = .ok (.astore 4, 2) := by decide +kernel
theorem dX3_senderTakesFrame_54 : decode cX3_senderTakesFrame 54 = .ok (.aload 4, 2) := by decide +kernel
theorem dX3_senderTakesFrame_56 : decode cX3_senderTakesFrame 56 = .ok (.getfield 236, 3) := by decide +kernel
theorem dX3_senderTakesFrame_59 : decode cX3_senderTakesFrame 59 = .ok (.iconst 2, 1) := by decide +kernel
theorem dX3_senderTakesFrame_60 : decode cX3_senderTakesFrame 60 = .ok (.if_icmp .ne 13, 3) := by decide +kernel
theorem dX3_senderTakesFrame_63 : decode cX3_senderTakesFrame 63 = .ok (.aload_n 0, 1) := by decide +kernel
theorem dX3_senderTakesFrame_64 : decode cX3_senderTakesFrame 64 = .ok (.getfield 25, 3) := by decide +kernel
theorem dX3_senderTakesFrame_67 : decode cX3_senderTakesFrame 67 = .ok (.iconst 2, 1) := by decide +kernel
theorem dX3_senderTakesFrame_68 : decode cX3_senderTakesFrame 68 = .ok (.iload_n 2, 1) := by decide +kernel
theorem dX3_senderTakesFrame_69 : decode cX3_senderTakesFrame 69 = .ok (.iconst 0, 1) := by decide +kernel
theorem dX3_senderTakesFrame_70 : decode cX3_senderTakesFrame 70 = .ok (.invokevirtual 73, 3) := by decide +kernel
theorem dX3_senderTakesFrame_73 : decode cX3_senderTakesFrame 73 = .ok (.aload 4, 2) := by decide +kernel
theorem dX3_senderTakesFrame_75 : decode cX3_senderTakesFrame 75 = .ok (.iload_n 3, 1) := by decide +kernel
theorem dX3_senderTakesFrame_76 : decode cX3_senderTakesFrame 76 = .ok (.invokevirtual 237, 3) := by decide +kernel
theorem dX3_senderTakesFrame_79 : decode cX3_senderTakesFrame 79 = .ok (.ireturn, 1) := by decide +kernel
theorem dX3_carryOut_0 : decode cX3_carryOut 0 = .ok (.aload_n 1, 1) := by decide +kernel
theorem dX3_carryOut_1 : decode cX3_carryOut 1 = .ok (.iload_n 2, 1) := by decide +kernel
theorem dX3_carryOut_2 : decode cX3_carryOut 2 = .ok (.invokevirtual 240, 3) := by decide +kernel
theorem dX3_carryOut_5 : decode cX3_carryOut 5 = .ok (.aload_n 1, 1) := by decide +kernel
theorem dX3_carryOut_6 : decode cX3_carryOut 6 = .ok (.getfield 236, 3) := by decide +kernel
theorem dX3_carryOut_9 : decode cX3_carryOut 9 = .ok (.ifCond .eq 16, 3) := by decide +kernel
theorem dX3_carryOut_12 : decode cX3_carryOut 12 = .ok (.aload_n 0, 1) := by decide +kernel
theorem dX3_carryOut_13 : decode cX3_carryOut 13 = .ok (.getfield 29, 3) := by decide +kernel
theorem dX3_carryOut_16 : decode cX3_carryOut 16 = .ok (.iconst 4, 1) := by decide +kernel
theorem dX3_carryOut_17 : decode cX3_carryOut 17 = .ok (.aload_n 1, 1) := by decide +kernel
theorem dX3_carryOut_18 : decode cX3_carryOut 18 = .ok (.getfield 108, 3) := by decide +kernel
theorem dX3_carryOut_21 : decode cX3_carryOut 21 = .ok (.iload_n 2, 1) := by decide +kernel
theorem dX3_carryOut_22 : decode cX3_carryOut 22 = .ok (.invokevirtual 73, 3) := by decide +kernel
theorem dX3_carryOut_25 : decode cX3_carryOut 25 = .ok (.return_, 1) := by decide +kernel
theorem dX3_closeTransaction_0 : decode cX3_closeTransaction 0 = .ok (.iconst 0, 1) := by decide +kernel
theorem dX3_closeTransaction_1 : decode cX3_closeTransaction 1 = .ok (.istore_n 1, 1) := by decide +kernel
theorem dX3_closeTransaction_2 : decode cX3_closeTransaction 2 = .ok (.iload_n 1, 1) := by decide +kernel
theorem dX3_closeTransaction_3 : decode cX3_closeTransaction 3 = .ok (.aload_n 0, 1) := by decide +kernel
theorem dX3_closeTransaction_4 : decode cX3_closeTransaction 4 = .ok (.getfield 32, 3) := by decide +kernel
theorem dX3_closeTransaction_7 : decode cX3_closeTransaction 7 = .ok (.invokevirtual 83, 3) := by decide +kernel
theorem dX3_closeTransaction_10 : decode cX3_closeTransaction 10 = .ok (.if_icmp .ge 24, 3) := by decide +kernel
theorem dX3_closeTransaction_13 : decode cX3_closeTransaction 13 = .ok (.aload_n 0, 1) := by decide +kernel
theorem dX3_closeTransaction_14 : decode cX3_closeTransaction 14 = .ok (.getfield 32, 3) := by decide +kernel
theorem dX3_closeTransaction_17 : decode cX3_closeTransaction 17 = .ok (.iload_n 1, 1) := by decide +kernel
theorem dX3_closeTransaction_18 : decode cX3_closeTransaction 18 = .ok (.invokevirtual 162, 3) := by decide +kernel
theorem dX3_closeTransaction_21 : decode cX3_closeTransaction 21 = .ok (.checkcast 93, 3) := by decide +kernel
theorem dX3_closeTransaction_24 : decode cX3_closeTransaction 24 = .ok (.iconst (-1), 1) := by decide +kernel
theorem dX3_closeTransaction_25 : decode cX3_closeTransaction 25 = .ok (.putfield 177, 3) := by decide +kernel
theorem dX3_closeTransaction_28 : decode cX3_closeTransaction 28 = .ok (.iinc 1 1, 3) := by decide +kernel
theorem dX3_closeTransaction_31 : decode cX3_closeTransaction 31 = .ok (.goto (-29), 3) := by decide +kernel
theorem dX3_closeTransaction_34 : decode cX3_closeTransaction 34 = .ok (.aload_n 0, 1) := by decide +kernel
theorem dX3_closeTransaction_35 : decode cX3_closeTransaction 35 = .ok (.getfield 32, 3) := by decide +kernel
theorem dX3_closeTransaction_38 : decode cX3_closeTransaction 38 = .ok (.invokevirtual 243, 3) := by decide +kernel
theorem dX3_closeTransaction_41 : decode cX3_closeTransaction 41 = .ok (.aload_n 0, 1) := by decide +kernel
theorem dX3_closeTransaction_42 : decode cX3_closeTransaction 42 = .ok (.iconst 0, 1) := by decide +kernel
theorem dX3_closeTransaction_43 : decode cX3_closeTransaction 43 = .ok (.putfield 39, 3) := by decide +kernel
theorem dX3_closeTransaction_46 : decode cX3_closeTransaction 46 = .ok (.return_, 1) := by decide +kernel
theorem dX4_init_0 : decode cX4_init 0 = .ok (.aload_n 0, 1) := by decide +kernel
theorem dX4_init_1 : decode cX4_init 1 = .ok (.invokespecial 1, 3) := by decide +kernel
theorem dX4_init_4 : decode cX4_init 4 = .ok (.aload_n 0, 1) := by decide +kernel
theorem dX4_init_5 : decode cX4_init 5 = .ok (.iconst 4, 1) := by decide +kernel
theorem dX4_init_6 : decode cX4_init 6 = .ok (.newarray .int, 2) := by decide +kernel
theorem dX4_init_8 : decode cX4_init 8 = .ok (.putfield 7, 3) := by decide +kernel
theorem dX4_init_11 : decode cX4_init 11 = .ok (.aload_n 0, 1) := by decide +kernel
theorem dX4_init_12 : decode cX4_init 12 = .ok (.iconst 4, 1) := by decide +kernel
theorem dX4_init_13 : decode cX4_init 13 = .ok (.newarray .int, 2) := by decide +kernel
theorem dX4_init_15 : decode cX4_init 15 = .ok (.putfield 13, 3) := by decide +kernel
theorem dX4_init_18 : decode cX4_init 18 = .ok (.aload_n 0, 1) := by decide +kernel
theorem dX4_init_19 : decode cX4_init 19 = .ok (.iconst 4, 1) := by decide +kernel
theorem dX4_init_20 : decode cX4_init 20 = .ok (.newarray .int, 2) := by decide +kernel
theorem dX4_init_22 : decode cX4_init 22 = .ok (.putfield 16, 3) := by decide +kernel
theorem dX4_init_25 : decode cX4_init 25 = .ok (.aload_n 0, 1) := by decide +kernel
theorem dX4_init_26 : decode cX4_init 26 = .ok (.iconst 4, 1) := by decide +kernel
theorem dX4_init_27 : decode cX4_init 27 = .ok (.newarray .int, 2) := by decide +kernel
theorem dX4_init_29 : decode cX4_init 29 = .ok (.putfield 19, 3) := by decide +kernel
theorem dX4_init_32 : decode cX4_init 32 = .ok (.aload_n 0, 1) := by decide +kernel
theorem dX4_init_33 : decode cX4_init 33 = .ok (.bipush 60, 2) := by decide +kernel
theorem dX4_init_35 : decode cX4_init 35 = .ok (.newarray .int, 2) := by decide +kernel
theorem dX4_init_37 : decode cX4_init 37 = .ok (.putfield 22, 3) := by decide +kernel
theorem dX4_init_40 : decode cX4_init 40 = .ok (.aload_n 0, 1) := by decide +kernel
theorem dX4_init_41 : decode cX4_init 41 = .ok (.bipush 60, 2) := by decide +kernel
theorem dX4_init_43 : decode cX4_init 43 = .ok (.newarray .int, 2) := by decide +kernel
theorem dX4_init_45 : decode cX4_init 45 = .ok (.putfield 25, 3) := by decide +kernel
theorem dX4_init_48 : decode cX4_init 48 = .ok (.aload_n 0, 1) := by decide +kernel
theorem dX4_init_49 : decode cX4_init 49 = .ok (.bipush 60, 2) := by decide +kernel
theorem dX4_init_51 : decode cX4_init 51 = .ok (.newarray .int, 2) := by decide +kernel
theorem dX4_init_53 : decode cX4_init 53 = .ok (.putfield 28, 3) := by decide +kernel
theorem dX4_init_56 : decode cX4_init 56 = .ok (.aload_n 0, 1) := by decide +kernel
theorem dX4_init_57 : decode cX4_init 57 = .ok (.bipush 60, 2) := by decide +kernel
theorem dX4_init_59 : decode cX4_init 59 = .ok (.newarray .int, 2) := by decide +kernel
theorem dX4_init_61 : decode cX4_init 61 = .ok (.putfield 31, 3) := by decide +kernel
theorem dX4_init_64 : decode cX4_init 64 = .ok (.aload_n 0, 1) := by decide +kernel
theorem dX4_init_65 : decode cX4_init 65 = .ok (.bipush 60, 2) := by decide +kernel
theorem dX4_init_67 : decode cX4_init 67 = .ok (.newarray .int, 2) := by decide +kernel
theorem dX4_init_69 : decode cX4_init 69 = .ok (.putfield 34, 3) := by decide +kernel
theorem dX4_init_72 : decode cX4_init 72 = .ok (.aload_n 0, 1) := by decide +kernel
theorem dX4_init_73 : decode cX4_init 73 = .ok (.bipush 60, 2) := by decide +kernel
theorem dX4_init_75 : decode cX4_init 75 = .ok (.newarray .int, 2) := by decide +kernel
theorem dX4_init_77 : decode cX4_init 77 = .ok (.putfield 37, 3) := by decide +kernel
theorem dX4_init_80 : decode cX4_init 80 = .ok (.aload_n 0, 1) := by decide +kernel
theorem dX4_init_81 : decode cX4_init 81 = .ok (.bipush 60, 2) := by decide +kernel
theorem dX4_init_83 : decode cX4_init 83 = .ok (.newarray .int, 2) := by decide +kernel
theorem dX4_init_85 : decode cX4_init 85 = .ok (.putfield 40, 3) := by decide +kernel
theorem dX4_init_88 : decode cX4_init 88 = .ok (.aload_n 0, 1) := by decide +kernel
theorem dX4_init_89 : decode cX4_init 89 = .ok (.bipush 60, 2) := by decide +kernel
theorem dX4_init_91 : decode cX4_init 91 = .ok (.newarray .boolean, 2) := by decide +kernel
theorem dX4_init_93 : decode cX4_init 93 = .ok (.putfield 43, 3) := by decide +kernel
theorem dX4_init_96 : decode cX4_init 96 = .ok (.aload_n 0, 1) := by decide +kernel
theorem dX4_init_97 : decode cX4_init 97 = .ok (.bipush 60, 2) := by decide +kernel
theorem dX4_init_99 : decode cX4_init 99 = .ok (.newarray .int, 2) := by decide +kernel
theorem dX4_init_101 : decode cX4_init 101 = .ok (.putfield 47, 3) := by decide +kernel
theorem dX4_init_104 : decode cX4_init 104 = .ok (.aload_n 0, 1) := by decide +kernel
theorem dX4_init_105 : decode cX4_init 105 = .ok (.bipush 60, 2) := by decide +kernel
theorem dX4_init_107 : decode cX4_init 107 = .ok (.newarray .int, 2) := by decide +kernel
theorem dX4_init_109 : decode cX4_init 109 = .ok (.putfield 50, 3) := by decide +kernel
theorem dX4_init_112 : decode cX4_init 112 = .ok (.aload_n 0, 1) := by decide +kernel
theorem dX4_init_113 : decode cX4_init 113 = .ok (.bipush 60, 2) := by decide +kernel
theorem dX4_init_115 : decode cX4_init 115 = .ok (.newarray .int, 2) := by decide +kernel
theorem dX4_init_117 : decode cX4_init 117 = .ok (.putfield 53, 3) := by decide +kernel
theorem dX4_init_120 : decode cX4_init 120 = .ok (.aload_n 0, 1) := by decide +kernel
theorem dX4_init_121 : decode cX4_init 121 = .ok (.sipush 2048, 3) := by decide +kernel
theorem dX4_init_124 : decode cX4_init 124 = .ok (.newarray .int, 2) := by decide +kernel
theorem dX4_init_126 : decode cX4_init 126 = .ok (.putfield 56, 3) := by decide +kernel
theorem dX4_init_129 : decode cX4_init 129 = .ok (.aload_n 0, 1) := by decide +kernel
theorem dX4_init_130 : decode cX4_init 130 = .ok (.sipush 2048, 3) := by decide +kernel
theorem dX4_init_133 : decode cX4_init 133 = .ok (.newarray .int, 2) := by decide +kernel
theorem dX4_init_135 : decode cX4_init 135 = .ok (.putfield 59, 3) := by decide +kernel
theorem dX4_init_138 : decode cX4_init 138 = .ok (.aload_n 0, 1) := by decide +kernel
theorem dX4_init_139 : decode cX4_init 139 = .ok (.iconst 1, 1) := by decide +kernel
theorem dX4_init_140 : decode cX4_init 140 = .ok (.putfield 62, 3) := by decide +kernel
theorem dX4_init_143 : decode cX4_init 143 = .ok (.aload_n 0, 1) := by decide +kernel
theorem dX4_init_144 : decode cX4_init 144 = .ok (.bipush 60, 2) := by decide +kernel
theorem dX4_init_146 : decode cX4_init 146 = .ok (.newarray .int, 2) := by decide +kernel
theorem dX4_init_148 : decode cX4_init 148 = .ok (.putfield 66, 3) := by decide +kernel
theorem dX4_init_151 : decode cX4_init 151 = .ok (.return_, 1) := by decide +kernel
theorem dX4_thrown_0 : decode cX4_thrown 0 = .ok (.aload_n 0, 1) := by decide +kernel
theorem dX4_thrown_1 : decode cX4_thrown 1 = .ok (.getfield 69, 3) := by decide +kernel
theorem dX4_thrown_4 : decode cX4_thrown 4 = .ok (.ireturn, 1) := by decide +kernel
theorem dX4_in_0 : decode cX4_in 0 = .ok (.iload_n 0, 1) := by decide +kernel
theorem dX4_in_1 : decode cX4_in 1 = .ok (.iload_n 1, 1) := by decide +kernel
theorem dX4_in_2 : decode cX4_in 2 = .ok (.if_icmp .lt 12, 3) := by decide +kernel
theorem dX4_in_5 : decode cX4_in 5 = .ok (.iload_n 0, 1) := by decide +kernel
theorem dX4_in_6 : decode cX4_in 6 = .ok (.iload_n 2, 1) := by decide +kernel
theorem dX4_in_7 : decode cX4_in 7 = .ok (.if_icmp .gt 7, 3) := by decide +kernel
theorem dX4_in_10 : decode cX4_in 10 = .ok (.iconst 1, 1) := by decide +kernel
theorem dX4_in_11 : decode cX4_in 11 = .ok (.goto 4, 3) := by decide +kernel
theorem dX4_in_14 : decode cX4_in 14 = .ok (.iconst 0, 1) := by decide +kernel
theorem dX4_in_15 : decode cX4_in 15 = .ok (.ireturn, 1) := by decide +kernel
theorem dX4_asked_0 : decode cX4_asked 0 = .ok (.aload_n 0, 1) := by decide +kernel
theorem dX4_asked_1 : decode cX4_asked 1 = .ok (.iload_n 1, 1) := by decide +kernel
theorem dX4_asked_2 : decode cX4_asked 2 = .ok (.ifCond .eq 7, 3) := by decide +kernel
theorem dX4_asked_5 : decode cX4_asked 5 = .ok (.iconst 0, 1) := by decide +kernel
theorem dX4_asked_6 : decode cX4_asked 6 = .ok (.goto 4, 3) := by decide +kernel
theorem dX4_asked_9 : decode cX4_asked 9 = .ok (.iconst 1, 1) := by decide +kernel
theorem dX4_asked_10 : decode cX4_asked 10 = .ok (.putfield 69, 3) := by decide +kernel
theorem dX4_asked_13 : decode cX4_asked 13 = .ok (.iload_n 1, 1) := by decide +kernel
theorem dX4_asked_14 : decode cX4_asked 14 = .ok (.ireturn, 1) := by decide +kernel
theorem dX4_asked__0 : decode cX4_asked_ 0 = .ok (.aload_n 0, 1) := by decide +kernel
theorem dX4_asked__1 : decode cX4_asked_ 1 = .ok (.iload_n 1, 1) := by decide +kernel
theorem dX4_asked__2 : decode cX4_asked_ 2 = .ok (.ifCond .ne 7, 3) := by decide +kernel
theorem dX4_asked__5 : decode cX4_asked_ 5 = .ok (.iconst 1, 1) := by decide +kernel
theorem dX4_asked__6 : decode cX4_asked_ 6 = .ok (.goto 12, 3) := by decide +kernel
theorem dX4_asked__9 : decode cX4_asked_ 9 = .ok (.iload_n 2, 1) := by decide +kernel
theorem dX4_asked__10 : decode cX4_asked_ 10 = .ok (.ifCond .eq 7, 3) := by decide +kernel
theorem dX4_asked__13 : decode cX4_asked_ 13 = .ok (.iconst 0, 1) := by decide +kernel
theorem dX4_asked__14 : decode cX4_asked_ 14 = .ok (.goto 4, 3) := by decide +kernel
theorem dX4_asked__17 : decode cX4_asked_ 17 = .ok (.iconst 2, 1) := by decide +kernel
theorem dX4_asked__18 : decode cX4_asked_ 18 = .ok (.putfield 69, 3) := by decide +kernel
theorem dX4_asked__21 : decode cX4_asked_ 21 = .ok (.aload_n 0, 1) := by decide +kernel
theorem dX4_asked__22 : decode cX4_asked_ 22 = .ok (.getfield 69, 3) := by decide +kernel
theorem dX4_asked__25 : decode cX4_asked_ 25 = .ok (.ifCond .ne 7, 3) := by decide +kernel
theorem dX4_asked__28 : decode cX4_asked_ 28 = .ok (.iconst 1, 1) := by decide +kernel
theorem dX4_asked__29 : decode cX4_asked_ 29 = .ok (.goto 4, 3) := by decide +kernel
theorem dX4_asked__32 : decode cX4_asked_ 32 = .ok (.iconst 0, 1) := by decide +kernel
theorem dX4_asked__33 : decode cX4_asked_ 33 = .ok (.ireturn, 1) := by decide +kernel
theorem dX4_asked___0 : decode cX4_asked__ 0 = .ok (.aload_n 0, 1) := by decide +kernel
theorem dX4_asked___1 : decode cX4_asked__ 1 = .ok (.iload_n 1, 1) := by decide +kernel
theorem dX4_asked___2 : decode cX4_asked__ 2 = .ok (.ifCond .ne 7, 3) := by decide +kernel
theorem dX4_asked___5 : decode cX4_asked__ 5 = .ok (.iconst 1, 1) := by decide +kernel
theorem dX4_asked___6 : decode cX4_asked__ 6 = .ok (.goto 20, 3) := by decide +kernel
theorem dX4_asked___9 : decode cX4_asked__ 9 = .ok (.iload_n 2, 1) := by decide +kernel
theorem dX4_asked___10 : decode cX4_asked__ 10 = .ok (.ifCond .ne 7, 3) := by decide +kernel
theorem dX4_asked___13 : decode cX4_asked__ 13 = .ok (.iconst 2, 1) := by decide +kernel
theorem dX4_asked___14 : decode cX4_asked__ 14 = .ok (.goto 12, 3) := by decide +kernel
theorem dX4_asked___17 : decode cX4_asked__ 17 = .ok (.iload_n 3, 1) := by decide +kernel
theorem dX4_asked___18 : decode cX4_asked__ 18 = .ok (.ifCond .eq 7, 3) := by decide +kernel
theorem dX4_asked___21 : decode cX4_asked__ 21 = .ok (.iconst 0, 1) := by decide +kernel
theorem dX4_asked___22 : decode cX4_asked__ 22 = .ok (.goto 4, 3) := by decide +kernel
theorem dX4_asked___25 : decode cX4_asked__ 25 = .ok (.iconst 3, 1) := by decide +kernel
theorem dX4_asked___26 : decode cX4_asked__ 26 = .ok (.putfield 69, 3) := by decide +kernel
theorem dX4_asked___29 : decode cX4_asked__ 29 = .ok (.aload_n 0, 1) := by decide +kernel
theorem dX4_asked___30 : decode cX4_asked__ 30 = .ok (.getfield 69, 3) := by decide +kernel
theorem dX4_asked___33 : decode cX4_asked__ 33 = .ok (.ifCond .ne 7, 3) := by decide +kernel
theorem dX4_asked___36 : decode cX4_asked__ 36 = .ok (.iconst 1, 1) := by decide +kernel
theorem dX4_asked___37 : decode cX4_asked__ 37 = .ok (.goto 4, 3) := by decide +kernel
theorem dX4_asked___40 : decode cX4_asked__ 40 = .ok (.iconst 0, 1) := by decide +kernel
theorem dX4_asked___41 : decode cX4_asked__ 41 = .ok (.ireturn, 1) := by decide +kernel
theorem dX4_tells_0 : decode cX4_tells 0 = .ok (.aload_n 0, 1) := by decide +kernel
theorem dX4_tells_1 : decode cX4_tells 1 = .ok (.iconst 0, 1) := by decide +kernel
theorem dX4_tells_2 : decode cX4_tells 2 = .ok (.putfield 69, 3) := by decide +kernel
theorem dX4_tells_5 : decode cX4_tells 5 = .ok (.iload_n 1, 1) := by decide +kernel
theorem dX4_tells_6 : decode cX4_tells 6 = .ok (.ireturn, 1) := by decide +kernel
theorem dX4_isLink_0 : decode cX4_isLink 0 = .ok (.iload_n 0, 1) := by decide +kernel
theorem dX4_isLink_1 : decode cX4_isLink 1 = .ok (.iconst 0, 1) := by decide +kernel
theorem dX4_isLink_2 : decode cX4_isLink 2 = .ok (.iconst 3, 1) := by decide +kernel
theorem dX4_isLink_3 : decode cX4_isLink 3 = .ok (.invokestatic 73, 3) := by decide +kernel
theorem dX4_isLink_6 : decode cX4_isLink 6 = .ok (.ireturn, 1) := by decide +kernel
theorem dX4_isDelivery_0 : decode cX4_isDelivery 0 = .ok (.iload_n 1, 1) := by decide +kernel
theorem dX4_isDelivery_1 : decode cX4_isDelivery 1 = .ok (.iconst 0, 1) := by decide +kernel
theorem dX4_isDelivery_2 : decode cX4_isDelivery 2 = .ok (.aload_n 0, 1) := by decide +kernel
theorem dX4_isDelivery_3 : decode cX4_isDelivery 3 = .ok (.getfield 77, 3) := by decide +kernel
theorem dX4_isDelivery_6 : decode cX4_isDelivery 6 = .ok (.iconst 1, 1) := by decide +kernel
theorem dX4_isDelivery_7 : decode cX4_isDelivery 7 = .ok (.isub, 1) := by decide +kernel
theorem dX4_isDelivery_8 : decode cX4_isDelivery 8 = .ok (.invokestatic 73, 3) := by decide +kernel
theorem dX4_isDelivery_11 : decode cX4_isDelivery 11 = .ok (.ireturn, 1) := by decide +kernel
theorem dX4_goes_0 : decode cX4_goes 0 = .ok (.aload_n 0, 1) := by decide +kernel
theorem dX4_goes_1 : decode cX4_goes 1 = .ok (.getfield 56, 3) := by decide +kernel
theorem dX4_goes_4 : decode cX4_goes 4 = .ok (.aload_n 0, 1) := by decide +kernel
theorem dX4_goes_5 : decode cX4_goes 5 = .ok (.getfield 80, 3) := by decide +kernel
theorem dX4_goes_8 : decode cX4_goes 8 = .ok (.sipush 2048, 3) := by decide +kernel
theorem dX4_goes_11 : decode cX4_goes 11 = .ok (.irem, 1) := by decide +kernel
theorem dX4_goes_12 : decode cX4_goes 12 = .ok (.iload_n 1, 1) := by decide +kernel
theorem dX4_goes_13 : decode cX4_goes 13 = .ok (.iastore, 1) := by decide +kernel
theorem dX4_goes_14 : decode cX4_goes 14 = .ok (.aload_n 0, 1) := by decide +kernel
theorem dX4_goes_15 : decode cX4_goes 15 = .ok (.dup, 1) := by decide +kernel
theorem dX4_goes_16 : decode cX4_goes 16 = .ok (.getfield 80, 3) := by decide +kernel
theorem dX4_goes_19 : decode cX4_goes 19 = .ok (.iconst 1, 1) := by decide +kernel
theorem dX4_goes_20 : decode cX4_goes 20 = .ok (.iadd, 1) := by decide +kernel
theorem dX4_goes_21 : decode cX4_goes 21 = .ok (.putfield 80, 3) := by decide +kernel
theorem dX4_goes_24 : decode cX4_goes 24 = .ok (.return_, 1) := by decide +kernel
theorem dX4_returns_0 : decode cX4_returns 0 = .ok (.aload_n 0, 1) := by decide +kernel
theorem dX4_returns_1 : decode cX4_returns 1 = .ok (.getfield 59, 3) := by decide +kernel
theorem dX4_returns_4 : decode cX4_returns 4 = .ok (.aload_n 0, 1) := by decide +kernel
theorem dX4_returns_5 : decode cX4_returns 5 = .ok (.getfield 83, 3) := by decide +kernel
theorem dX4_returns_8 : decode cX4_returns 8 = .ok (.sipush 2048, 3) := by decide +kernel
theorem dX4_returns_11 : decode cX4_returns 11 = .ok (.irem, 1) := by decide +kernel
theorem dX4_returns_12 : decode cX4_returns 12 = .ok (.iload_n 1, 1) := by decide +kernel
theorem dX4_returns_13 : decode cX4_returns 13 = .ok (.iastore, 1) := by decide +kernel
theorem dX4_returns_14 : decode cX4_returns 14 = .ok (.aload_n 0, 1) := by decide +kernel
theorem dX4_returns_15 : decode cX4_returns 15 = .ok (.dup, 1) := by decide +kernel
theorem dX4_returns_16 : decode cX4_returns 16 = .ok (.getfield 83, 3) := by decide +kernel
theorem dX4_returns_19 : decode cX4_returns 19 = .ok (.iconst 1, 1) := by decide +kernel
theorem dX4_returns_20 : decode cX4_returns 20 = .ok (.iadd, 1) := by decide +kernel
theorem dX4_returns_21 : decode cX4_returns 21 = .ok (.putfield 83, 3) := by decide +kernel
theorem dX4_returns_24 : decode cX4_returns 24 = .ok (.return_, 1) := by decide +kernel
theorem dX4_setMode_0 : decode cX4_setMode 0 = .ok (.aload_n 0, 1) := by decide +kernel
theorem dX4_setMode_1 : decode cX4_setMode 1 = .ok (.iload_n 1, 1) := by decide +kernel
theorem dX4_setMode_2 : decode cX4_setMode 2 = .ok (.invokestatic 86, 3) := by decide +kernel
theorem dX4_setMode_5 : decode cX4_setMode 5 = .ok (.iload_n 2, 1) := by decide +kernel
theorem dX4_setMode_6 : decode cX4_setMode 6 = .ok (.iconst 0, 1) := by decide +kernel
theorem dX4_setMode_7 : decode cX4_setMode 7 = .ok (.iconst 2, 1) := by decide +kernel
theorem dX4_setMode_8 : decode cX4_setMode 8 = .ok (.invokestatic 73, 3) := by decide +kernel
theorem dX4_setMode_11 : decode cX4_setMode 11 = .ok (.invokevirtual 90, 3) := by decide +kernel
theorem dX4_setMode_14 : decode cX4_setMode 14 = .ok (.ifCond .ne 5, 3) := by decide +kernel
theorem dX4_setMode_17 : decode cX4_setMode 17 = .ok (.iconst 0, 1) := by decide +kernel
theorem dX4_setMode_18 : decode cX4_setMode 18 = .ok (.ireturn, 1) := by decide +kernel
theorem dX4_setMode_19 : decode cX4_setMode 19 = .ok (.aload_n 0, 1) := by decide +kernel
theorem dX4_setMode_20 : decode cX4_setMode 20 = .ok (.getfield 7, 3) := by decide +kernel
theorem dX4_setMode_23 : decode cX4_setMode 23 = .ok (.iload_n 1, 1) := by decide +kernel
theorem dX4_setMode_24 : decode cX4_setMode 24 = .ok (.iaload, 1) := by decide +kernel
theorem dX4_setMode_25 : decode cX4_setMode 25 = .ok (.istore_n 3, 1) := by decide +kernel
theorem dX4_setMode_26 : decode cX4_setMode 26 = .ok (.aload_n 0, 1) := by decide +kernel
theorem dX4_setMode_27 : decode cX4_setMode 27 = .ok (.getfield 7, 3) := by decide +kernel
theorem dX4_setMode_30 : decode cX4_setMode 30 = .ok (.iload_n 1, 1) := by decide +kernel
theorem dX4_setMode_31 : decode cX4_setMode 31 = .ok (.iload_n 2, 1) := by decide +kernel
theorem dX4_setMode_32 : decode cX4_setMode 32 = .ok (.iastore, 1) := by decide +kernel
theorem dX4_setMode_33 : decode cX4_setMode 33 = .ok (.iload_n 3, 1) := by decide +kernel
theorem dX4_setMode_34 : decode cX4_setMode 34 = .ok (.ireturn, 1) := by decide +kernel
theorem dX4_grant_0 : decode cX4_grant 0 = .ok (.aload_n 0, 1) := by decide +kernel
theorem dX4_grant_1 : decode cX4_grant 1 = .ok (.iload_n 1, 1) := by decide +kernel
theorem dX4_grant_2 : decode cX4_grant 2 = .ok (.invokestatic 86, 3) := by decide +kernel
theorem dX4_grant_5 : decode cX4_grant 5 = .ok (.iload_n 2, 1) := by decide +kernel
theorem dX4_grant_6 : decode cX4_grant 6 = .ok (.iconst 0, 1) := by decide +kernel
theorem dX4_grant_7 : decode cX4_grant 7 = .ok (.bipush 15, 2) := by decide +kernel
theorem dX4_grant_9 : decode cX4_grant 9 = .ok (.invokestatic 73, 3) := by decide +kernel
theorem dX4_grant_12 : decode cX4_grant 12 = .ok (.aload_n 0, 1) := by decide +kernel
theorem dX4_grant_13 : decode cX4_grant 13 = .ok (.getfield 62, 3) := by decide +kernel
theorem dX4_grant_16 : decode cX4_grant 16 = .ok (.invokevirtual 94, 3) := by decide +kernel
theorem dX4_grant_19 : decode cX4_grant 19 = .ok (.ifCond .ne 5, 3) := by decide +kernel
theorem dX4_grant_22 : decode cX4_grant 22 = .ok (.iconst 0, 1) := by decide +kernel
theorem dX4_grant_23 : decode cX4_grant 23 = .ok (.ireturn, 1) := by decide +kernel
theorem dX4_grant_24 : decode cX4_grant 24 = .ok (.aload_n 0, 1) := by decide +kernel
theorem dX4_grant_25 : decode cX4_grant 25 = .ok (.getfield 19, 3) := by decide +kernel
theorem dX4_grant_28 : decode cX4_grant 28 = .ok (.iload_n 1, 1) := by decide +kernel
theorem dX4_grant_29 : decode cX4_grant 29 = .ok (.iaload, 1) := by decide +kernel
theorem dX4_grant_30 : decode cX4_grant 30 = .ok (.iload_n 2, 1) := by decide +kernel
theorem dX4_grant_31 : decode cX4_grant 31 = .ok (.iadd, 1) := by decide +kernel
theorem dX4_grant_32 : decode cX4_grant 32 = .ok (.bipush 16, 2) := by decide +kernel
theorem dX4_grant_34 : decode cX4_grant 34 = .ok (.irem, 1) := by decide +kernel
theorem dX4_grant_35 : decode cX4_grant 35 = .ok (.istore_n 3, 1) := by decide +kernel
theorem dX4_grant_36 : decode cX4_grant 36 = .ok (.aload_n 0, 1) := by decide +kernel
theorem dX4_grant_37 : decode cX4_grant 37 = .ok (.iconst (-1), 1) := by decide +kernel
theorem dX4_grant_38 : decode cX4_grant 38 = .ok (.bipush 16, 2) := by decide +kernel
theorem dX4_grant_40 : decode cX4_grant 40 = .ok (.iload_n 1, 1) := by decide +kernel
theorem dX4_grant_41 : decode cX4_grant 41 = .ok (.imul, 1) := by decide +kernel
theorem dX4_grant_42 : decode cX4_grant 42 = .ok (.isub, 1) := by decide +kernel
theorem dX4_grant_43 : decode cX4_grant 43 = .ok (.iload_n 3, 1) := by decide +kernel
theorem dX4_grant_44 : decode cX4_grant 44 = .ok (.isub, 1) := by decide +kernel
theorem dX4_grant_45 : decode cX4_grant 45 = .ok (.invokevirtual 97, 3) := by decide +kernel
theorem dX4_grant_48 : decode cX4_grant 48 = .ok (.iload_n 3, 1) := by decide +kernel
theorem dX4_grant_49 : decode cX4_grant 49 = .ok (.ireturn, 1) := by decide +kernel
theorem dX4_creditOf_0 : decode cX4_creditOf 0 = .ok (.aload_n 0, 1) := by decide +kernel
theorem dX4_creditOf_1 : decode cX4_creditOf 1 = .ok (.getfield 16, 3) := by decide +kernel
theorem dX4_creditOf_4 : decode cX4_creditOf 4 = .ok (.iload_n 1, 1) := by decide +kernel
theorem dX4_creditOf_5 : decode cX4_creditOf 5 = .ok (.iaload, 1) := by decide +kernel
theorem dX4_creditOf_6 : decode cX4_creditOf 6 = .ok (.aload_n 0, 1) := by decide +kernel
theorem dX4_creditOf_7 : decode cX4_creditOf 7 = .ok (.getfield 13, 3) := by decide +kernel
theorem dX4_creditOf_10 : decode cX4_creditOf 10 = .ok (.iload_n 1, 1) := by decide +kernel
theorem dX4_creditOf_11 : decode cX4_creditOf 11 = .ok (.iaload, 1) := by decide +kernel
theorem dX4_creditOf_12 : decode cX4_creditOf 12 = .ok (.isub, 1) := by decide +kernel
theorem dX4_creditOf_13 : decode cX4_creditOf 13 = .ok (.bipush 16, 2) := by decide +kernel
theorem dX4_creditOf_15 : decode cX4_creditOf 15 = .ok (.iadd, 1) := by decide +kernel
theorem dX4_creditOf_16 : decode cX4_creditOf 16 = .ok (.bipush 16, 2) := by decide +kernel
theorem dX4_creditOf_18 : decode cX4_creditOf 18 = .ok (.irem, 1) := by decide +kernel
theorem dX4_creditOf_19 : decode cX4_creditOf 19 = .ok (.ireturn, 1) := by decide +kernel
theorem dX4_credit_0 : decode cX4_credit 0 = .ok (.aload_n 0, 1) := by decide +kernel
theorem dX4_credit_1 : decode cX4_credit 1 = .ok (.iload_n 1, 1) := by decide +kernel
theorem dX4_credit_2 : decode cX4_credit 2 = .ok (.invokestatic 86, 3) := by decide +kernel
theorem dX4_credit_5 : decode cX4_credit 5 = .ok (.invokevirtual 101, 3) := by decide +kernel
theorem dX4_credit_8 : decode cX4_credit 8 = .ok (.ifCond .eq 11, 3) := by decide +kernel
theorem dX4_credit_11 : decode cX4_credit 11 = .ok (.aload_n 0, 1) := by decide +kernel
theorem dX4_credit_12 : decode cX4_credit 12 = .ok (.iload_n 1, 1) := by decide +kernel
theorem dX4_credit_13 : decode cX4_credit 13 = .ok (.invokevirtual 104, 3) := by decide +kernel
theorem dX4_credit_16 : decode cX4_credit 16 = .ok (.goto 4, 3) := by decide +kernel
theorem dX4_credit_19 : decode cX4_credit 19 = .ok (.iconst 0, 1) := by decide +kernel
theorem dX4_credit_20 : decode cX4_credit 20 = .ok (.ireturn, 1) := by decide +kernel
theorem dX4_sends_0 : decode cX4_sends 0 = .ok (.iconst 0, 1) := by decide +kernel
theorem dX4_sends_1 : decode cX4_sends 1 = .ok (.istore_n 3, 1) := by decide +kernel
theorem dX4_sends_2 : decode cX4_sends 2 = .ok (.iload_n 3, 1) := by decide +kernel
theorem dX4_sends_3 : decode cX4_sends 3 = .ok (.aload_n 0, 1) := by decide +kernel
theorem dX4_sends_4 : decode cX4_sends 4 = .ok (.getfield 28, 3) := by decide +kernel
theorem dX4_sends_7 : decode cX4_sends 7 = .ok (.iload_n 1, 1) := by decide +kernel
theorem dX4_sends_8 : decode cX4_sends 8 = .ok (.iaload, 1) := by decide +kernel
theorem dX4_sends_9 : decode cX4_sends 9 = .ok (.if_icmp .ge 23, 3) := by decide +kernel
theorem dX4_sends_12 : decode cX4_sends 12 = .ok (.aload_n 0, 1) := by decide +kernel
theorem dX4_sends_13 : decode cX4_sends 13 = .ok (.bipush 16, 2) := by decide +kernel
theorem dX4_sends_15 : decode cX4_sends 15 = .ok (.iload_n 1, 1) := by decide +kernel
theorem dX4_sends_16 : decode cX4_sends 16 = .ok (.imul, 1) := by decide +kernel
theorem dX4_sends_17 : decode cX4_sends 17 = .ok (.iconst 2, 1) := by decide +kernel
theorem dX4_sends_18 : decode cX4_sends 18 = .ok (.iload_n 3, 1) := by decide +kernel
theorem dX4_sends_19 : decode cX4_sends 19 = .ok (.imul, 1) := by decide +kernel
theorem dX4_sends_20 : decode cX4_sends 20 = .ok (.iadd, 1) := by decide +kernel
theorem dX4_sends_21 : decode cX4_sends 21 = .ok (.iload_n 2, 1) := by decide +kernel
theorem dX4_sends_22 : decode cX4_sends 22 = .ok (.iadd, 1) := by decide +kernel
theorem dX4_sends_23 : decode cX4_sends 23 = .ok (.invokevirtual 108, 3) := by decide +kernel
theorem dX4_sends_26 : decode cX4_sends 26 = .ok (.iinc 3 1, 3) := by decide +kernel
theorem dX4_sends_29 : decode cX4_sends 29 = .ok (.goto (-27), 3) := by decide +kernel
theorem dX4_sends_32 : decode cX4_sends 32 = .ok (.return_, 1) := by decide +kernel
theorem dX4_send_0 : decode cX4_send 0 = .ok (.iload_n 1, 1) := by decide +kernel
theorem dX4_send_1 : decode cX4_send 1 = .ok (.invokestatic 86, 3) := by decide +kernel
theorem dX4_send_4 : decode cX4_send 4 = .ok (.istore_n 3, 1) := by decide +kernel
theorem dX4_send_5 : decode cX4_send 5 = .ok (.aload_n 0, 1) := by decide +kernel
theorem dX4_send_6 : decode cX4_send 6 = .ok (.iload_n 3, 1) := by decide +kernel
theorem dX4_send_7 : decode cX4_send 7 = .ok (.iload_n 2, 1) := by decide +kernel
theorem dX4_send_8 : decode cX4_send 8 = .ok (.iconst 1, 1) := by decide +kernel
theorem dX4_send_9 : decode cX4_send 9 = .ok (.iconst 4, 1) := by decide +kernel
theorem dX4_send_10 : decode cX4_send 10 = .ok (.invokestatic 73, 3) := by decide +kernel
theorem dX4_send_13 : decode cX4_send 13 = .ok (.iload_n 3, 1) := by decide +kernel
theorem dX4_send_14 : decode cX4_send 14 = .ok (.ifCond .eq 31, 3) := by decide +kernel
theorem dX4_send_17 : decode cX4_send 17 = .ok (.aload_n 0, 1) := by decide +kernel
theorem dX4_send_18 : decode cX4_send 18 = .ok (.getfield 62, 3) := by decide +kernel
theorem dX4_send_21 : decode cX4_send 21 = .ok (.ifCond .eq 24, 3) := by decide +kernel
theorem dX4_send_24 : decode cX4_send 24 = .ok (.aload_n 0, 1) := by decide +kernel
theorem dX4_send_25 : decode cX4_send 25 = .ok (.getfield 77, 3) := by decide +kernel
theorem dX4_send_28 : decode cX4_send 28 = .ok (.bipush 60, 2) := by decide +kernel
theorem dX4_send_30 : decode cX4_send 30 = .ok (.if_icmp .ge 15, 3) := by decide +kernel
theorem dX4_send_33 : decode cX4_send 33 = .ok (.aload_n 0, 1) := by decide +kernel
theorem dX4_send_34 : decode cX4_send 34 = .ok (.iload_n 1, 1) := by decide +kernel
theorem dX4_send_35 : decode cX4_send 35 = .ok (.invokevirtual 104, 3) := by decide +kernel
theorem dX4_send_38 : decode cX4_send 38 = .ok (.ifCond .le 7, 3) := by decide +kernel
theorem dX4_send_41 : decode cX4_send 41 = .ok (.iconst 1, 1) := by decide +kernel
theorem dX4_send_42 : decode cX4_send 42 = .ok (.goto 4, 3) := by decide +kernel
theorem dX4_send_45 : decode cX4_send 45 = .ok (.iconst 0, 1) := by decide +kernel
theorem dX4_send_46 : decode cX4_send 46 = .ok (.invokevirtual 94, 3) := by decide +kernel
theorem dX4_send_49 : decode cX4_send 49 = .ok (.ifCond .ne 5, 3) := by decide +kernel
theorem dX4_send_52 : decode cX4_send 52 = .ok (.iconst 0, 1) := by decide +kernel
theorem dX4_send_53 : decode cX4_send 53 = .ok (.ireturn, 1) := by decide +kernel
theorem dX4_send_54 : decode cX4_send 54 = .ok (.aload_n 0, 1) := by decide +kernel
theorem dX4_send_55 : decode cX4_send 55 = .ok (.getfield 77, 3) := by decide +kernel
theorem dX4_send_58 : decode cX4_send 58 = .ok (.istore 4, 2) := by decide +kernel
theorem dX4_send_60 : decode cX4_send 60 = .ok (.aload_n 0, 1) := by decide +kernel
theorem dX4_send_61 : decode cX4_send 61 = .ok (.getfield 22, 3) := by decide +kernel
theorem dX4_send_64 : decode cX4_send 64 = .ok (.iload 4, 2) := by decide +kernel
theorem dX4_send_66 : decode cX4_send 66 = .ok (.iload_n 1, 1) := by decide +kernel
theorem dX4_send_67 : decode cX4_send 67 = .ok (.iastore, 1) := by decide +kernel
theorem dX4_send_68 : decode cX4_send 68 = .ok (.aload_n 0, 1) := by decide +kernel
theorem dX4_send_69 : decode cX4_send 69 = .ok (.getfield 25, 3) := by decide +kernel
theorem dX4_send_72 : decode cX4_send 72 = .ok (.iload 4, 2) := by decide +kernel
theorem dX4_send_74 : decode cX4_send 74 = .ok (.aload_n 0, 1) := by decide +kernel
theorem dX4_send_75 : decode cX4_send 75 = .ok (.getfield 7, 3) := by decide +kernel
theorem dX4_send_78 : decode cX4_send 78 = .ok (.iload_n 1, 1) := by decide +kernel
theorem dX4_send_79 : decode cX4_send 79 = .ok (.iaload, 1) := by decide +kernel
theorem dX4_send_80 : decode cX4_send 80 = .ok (.iastore, 1) := by decide +kernel
theorem dX4_send_81 : decode cX4_send 81 = .ok (.aload_n 0, 1) := by decide +kernel
theorem dX4_send_82 : decode cX4_send 82 = .ok (.getfield 28, 3) := by decide +kernel
theorem dX4_send_85 : decode cX4_send 85 = .ok (.iload 4, 2) := by decide +kernel
theorem dX4_send_87 : decode cX4_send 87 = .ok (.iload_n 2, 1) := by decide +kernel
theorem dX4_send_88 : decode cX4_send 88 = .ok (.iastore, 1) := by decide +kernel
theorem dX4_send_89 : decode cX4_send 89 = .ok (.aload_n 0, 1) := by decide +kernel
theorem dX4_send_90 : decode cX4_send 90 = .ok (.getfield 31, 3) := by decide +kernel
theorem dX4_send_93 : decode cX4_send 93 = .ok (.iload 4, 2) := by decide +kernel
theorem dX4_send_95 : decode cX4_send 95 = .ok (.aload_n 0, 1) := by decide +kernel
theorem dX4_send_96 : decode cX4_send 96 = .ok (.getfield 7, 3) := by decide +kernel
theorem dX4_send_99 : decode cX4_send 99 = .ok (.iload_n 1, 1) := by decide +kernel
theorem dX4_send_100 : decode cX4_send 100 = .ok (.iaload, 1) := by decide +kernel
theorem dX4_send_101 : decode cX4_send 101 = .ok (.ifCond .ne 7, 3) := by decide +kernel
theorem dX4_send_104 : decode cX4_send 104 = .ok (.iconst 1, 1) := by decide +kernel
theorem dX4_send_105 : decode cX4_send 105 = .ok (.goto 4, 3) := by decide +kernel
theorem dX4_send_108 : decode cX4_send 108 = .ok (.iconst 0, 1) := by decide +kernel
theorem dX4_send_109 : decode cX4_send 109 = .ok (.iastore, 1) := by decide +kernel
theorem dX4_send_110 : decode cX4_send 110 = .ok (.aload_n 0, 1) := by decide +kernel
theorem dX4_send_111 : decode cX4_send 111 = .ok (.getfield 34, 3) := by decide +kernel
theorem dX4_send_114 : decode cX4_send 114 = .ok (.iload 4, 2) := by decide +kernel
theorem dX4_send_116 : decode cX4_send 116 = .ok (.iconst (-1), 1) := by decide +kernel
theorem dX4_send_117 : decode cX4_send 117 = .ok (.iastore, 1) := by decide +kernel
theorem dX4_send_118 : decode cX4_send 118 = .ok (.aload_n 0, 1) := by decide +kernel
theorem dX4_send_119 : decode cX4_send 119 = .ok (.getfield 53, 3) := by decide +kernel
theorem dX4_send_122 : decode cX4_send 122 = .ok (.iload 4, 2) := by decide +kernel
theorem dX4_send_124 : decode cX4_send 124 = .ok (.iconst (-1), 1) := by decide +kernel
theorem dX4_send_125 : decode cX4_send 125 = .ok (.iastore, 1) := by decide +kernel
theorem dX4_send_126 : decode cX4_send 126 = .ok (.aload_n 0, 1) := by decide +kernel
theorem dX4_send_127 : decode cX4_send 127 = .ok (.dup, 1) := by decide +kernel
theorem dX4_send_128 : decode cX4_send 128 = .ok (.getfield 77, 3) := by decide +kernel
theorem dX4_send_131 : decode cX4_send 131 = .ok (.iconst 1, 1) := by decide +kernel
theorem dX4_send_132 : decode cX4_send 132 = .ok (.iadd, 1) := by decide +kernel
theorem dX4_send_133 : decode cX4_send 133 = .ok (.putfield 77, 3) := by decide +kernel
theorem dX4_send_136 : decode cX4_send 136 = .ok (.aload_n 0, 1) := by decide +kernel
theorem dX4_send_137 : decode cX4_send 137 = .ok (.getfield 13, 3) := by decide +kernel
theorem dX4_send_140 : decode cX4_send 140 = .ok (.iload_n 1, 1) := by decide +kernel
theorem dX4_send_141 : decode cX4_send 141 = .ok (.aload_n 0, 1) := by decide +kernel
theorem dX4_send_142 : decode cX4_send 142 = .ok (.getfield 13, 3) := by decide +kernel
theorem dX4_send_145 : decode cX4_send 145 = .ok (.iload_n 1, 1) := by decide +kernel
theorem dX4_send_146 : decode cX4_send 146 = .ok (.iaload, 1) := by decide +kernel
theorem dX4_send_147 : decode cX4_send 147 = .ok (.iconst 1, 1) := by decide +kernel
theorem dX4_send_148 : decode cX4_send 148 = .ok (.iadd, 1) := by decide +kernel
theorem dX4_send_149 : decode cX4_send 149 = .ok (.bipush 16, 2) := by decide +kernel
theorem dX4_send_151 : decode cX4_send 151 = .ok (.irem, 1) := by decide +kernel
theorem dX4_send_152 : decode cX4_send 152 = .ok (.iastore, 1) := by decide +kernel
theorem dX4_send_153 : decode cX4_send 153 = .ok (.aload_n 0, 1) := by decide +kernel
theorem dX4_send_154 : decode cX4_send 154 = .ok (.iload 4, 2) := by decide +kernel
theorem dX4_send_156 : decode cX4_send 156 = .ok (.iconst 0, 1) := by decide +kernel
theorem dX4_send_157 : decode cX4_send 157 = .ok (.invokevirtual 111, 3) := by decide +kernel
theorem dX4_send_160 : decode cX4_send 160 = .ok (.iload 4, 2) := by decide +kernel
theorem dX4_send_162 : decode cX4_send 162 = .ok (.ireturn, 1) := by decide +kernel
theorem dX4_comes_0 : decode cX4_comes 0 = .ok (.iload_n 2, 1) := by decide +kernel
theorem dX4_comes_1 : decode cX4_comes 1 = .ok (.ifCond .ne 34, 3) := by decide +kernel
theorem dX4_comes_4 : decode cX4_comes 4 = .ok (.iload_n 3, 1) := by decide +kernel
theorem dX4_comes_5 : decode cX4_comes 5 = .ok (.ifCond .ne 30, 3) := by decide +kernel
theorem dX4_comes_8 : decode cX4_comes 8 = .ok (.aload_n 0, 1) := by decide +kernel
theorem dX4_comes_9 : decode cX4_comes 9 = .ok (.getfield 19, 3) := by decide +kernel
theorem dX4_comes_12 : decode cX4_comes 12 = .ok (.aload_n 0, 1) := by decide +kernel
theorem dX4_comes_13 : decode cX4_comes 13 = .ok (.getfield 22, 3) := by decide +kernel
theorem dX4_comes_16 : decode cX4_comes 16 = .ok (.iload_n 1, 1) := by decide +kernel
theorem dX4_comes_17 : decode cX4_comes 17 = .ok (.iaload, 1) := by decide +kernel
theorem dX4_comes_18 : decode cX4_comes 18 = .ok (.aload_n 0, 1) := by decide +kernel
theorem dX4_comes_19 : decode cX4_comes 19 = .ok (.getfield 19, 3) := by decide +kernel
theorem dX4_comes_22 : decode cX4_comes 22 = .ok (.aload_n 0, 1) := by decide +kernel
theorem dX4_comes_23 : decode cX4_comes 23 = .ok (.getfield 22, 3) := by decide +kernel
theorem dX4_comes_26 : decode cX4_comes 26 = .ok (.iload_n 1, 1) := by decide +kernel
theorem dX4_comes_27 : decode cX4_comes 27 = .ok (.iaload, 1) := by decide +kernel
theorem dX4_comes_28 : decode cX4_comes 28 = .ok (.iaload, 1) := by decide +kernel
theorem dX4_comes_29 : decode cX4_comes 29 = .ok (.iconst 1, 1) := by decide +kernel
theorem dX4_comes_30 : decode cX4_comes 30 = .ok (.iadd, 1) := by decide +kernel
theorem dX4_comes_31 : decode cX4_comes 31 = .ok (.bipush 16, 2) := by decide +kernel
theorem dX4_comes_33 : decode cX4_comes 33 = .ok (.irem, 1) := by decide +kernel
theorem dX4_comes_34 : decode cX4_comes 34 = .ok (.iastore, 1) := by decide +kernel
theorem dX4_comes_35 : decode cX4_comes 35 = .ok (.aload_n 0, 1) := by decide +kernel
theorem dX4_comes_36 : decode cX4_comes 36 = .ok (.getfield 37, 3) := by decide +kernel
theorem dX4_comes_39 : decode cX4_comes 39 = .ok (.iload_n 1, 1) := by decide +kernel
theorem dX4_comes_40 : decode cX4_comes 40 = .ok (.iaload, 1) := by decide +kernel
theorem dX4_comes_41 : decode cX4_comes 41 = .ok (.istore 4, 2) := by decide +kernel
theorem dX4_comes_43 : decode cX4_comes 43 = .ok (.iload_n 2, 1) := by decide +kernel
theorem dX4_comes_44 : decode cX4_comes 44 = .ok (.ifCond .ne 14, 3) := by decide +kernel
theorem dX4_comes_47 : decode cX4_comes 47 = .ok (.iload 4, 2) := by decide +kernel
theorem dX4_comes_49 : decode cX4_comes 49 = .ok (.ifCond .eq 25, 3) := by decide +kernel
theorem dX4_comes_52 : decode cX4_comes 52 = .ok (.iload 4, 2) := by decide +kernel
theorem dX4_comes_54 : decode cX4_comes 54 = .ok (.iconst 4, 1) := by decide +kernel
theorem dX4_comes_55 : decode cX4_comes 55 = .ok (.if_icmp .eq 19, 3) := by decide +kernel
theorem dX4_comes_58 : decode cX4_comes 58 = .ok (.iload 4, 2) := by decide +kernel
theorem dX4_comes_60 : decode cX4_comes 60 = .ok (.iconst 1, 1) := by decide +kernel
theorem dX4_comes_61 : decode cX4_comes 61 = .ok (.if_icmp .ne 17, 3) := by decide +kernel
theorem dX4_comes_64 : decode cX4_comes 64 = .ok (.iload_n 2, 1) := by decide +kernel
theorem dX4_comes_65 : decode cX4_comes 65 = .ok (.aload_n 0, 1) := by decide +kernel
theorem dX4_comes_66 : decode cX4_comes 66 = .ok (.getfield 40, 3) := by decide +kernel
theorem dX4_comes_69 : decode cX4_comes 69 = .ok (.iload_n 1, 1) := by decide +kernel
theorem dX4_comes_70 : decode cX4_comes 70 = .ok (.iaload, 1) := by decide +kernel
theorem dX4_comes_71 : decode cX4_comes 71 = .ok (.if_icmp .ne 7, 3) := by decide +kernel
theorem dX4_comes_74 : decode cX4_comes 74 = .ok (.iconst 1, 1) := by decide +kernel
theorem dX4_comes_75 : decode cX4_comes 75 = .ok (.goto 4, 3) := by decide +kernel
theorem dX4_comes_78 : decode cX4_comes 78 = .ok (.iconst 0, 1) := by decide +kernel
theorem dX4_comes_79 : decode cX4_comes 79 = .ok (.istore 5, 2) := by decide +kernel
theorem dX4_comes_81 : decode cX4_comes 81 = .ok (.iload 5, 2) := by decide +kernel
theorem dX4_comes_83 : decode cX4_comes 83 = .ok (.ifCond .ne 5, 3) := by decide +kernel
theorem dX4_comes_86 : decode cX4_comes 86 = .ok (.iconst 0, 1) := by decide +kernel
theorem dX4_comes_87 : decode cX4_comes 87 = .ok (.ireturn, 1) := by decide +kernel
theorem dX4_comes_88 : decode cX4_comes 88 = .ok (.aload_n 0, 1) := by decide +kernel
theorem dX4_comes_89 : decode cX4_comes 89 = .ok (.getfield 43, 3) := by decide +kernel
theorem dX4_comes_92 : decode cX4_comes 92 = .ok (.iload_n 1, 1) := by decide +kernel
theorem dX4_comes_93 : decode cX4_comes 93 = .ok (.iload 4, 2) := by decide +kernel
theorem dX4_comes_95 : decode cX4_comes 95 = .ok (.iconst 1, 1) := by decide +kernel
theorem dX4_comes_96 : decode cX4_comes 96 = .ok (.if_icmp .ne 12, 3) := by decide +kernel
theorem dX4_comes_99 : decode cX4_comes 99 = .ok (.aload_n 0, 1) := by decide +kernel
theorem dX4_comes_100 : decode cX4_comes 100 = .ok (.getfield 43, 3) := by decide +kernel
theorem dX4_comes_103 : decode cX4_comes 103 = .ok (.iload_n 1, 1) := by decide +kernel
theorem dX4_comes_104 : decode cX4_comes 104 = .ok (.baload, 1) := by decide +kernel
theorem dX4_comes_105 : decode cX4_comes 105 = .ok (.goto 14, 3) := by decide +kernel
theorem dX4_comes_108 : decode cX4_comes 108 = .ok (.iload 4, 2) := by decide +kernel
theorem dX4_comes_110 : decode cX4_comes 110 = .ok (.iconst 4, 1) := by decide +kernel
theorem dX4_comes_111 : decode cX4_comes 111 = .ok (.if_icmp .ne 7, 3) := by decide +kernel
theorem dX4_comes_114 : decode cX4_comes 114 = .ok (.iconst 1, 1) := by decide +kernel
theorem dX4_comes_115 : decode cX4_comes 115 = .ok (.goto 4, 3) := by decide +kernel
theorem dX4_comes_118 : decode cX4_comes 118 = .ok (.iconst 0, 1) := by decide +kernel
theorem dX4_comes_119 : decode cX4_comes 119 = .ok (.bastore, 1) := by decide +kernel
theorem dX4_comes_120 : decode cX4_comes 120 = .ok (.aload_n 0, 1) := by decide +kernel
theorem dX4_comes_121 : decode cX4_comes 121 = .ok (.getfield 40, 3) := by decide +kernel
theorem dX4_comes_124 : decode cX4_comes 124 = .ok (.iload_n 1, 1) := by decide +kernel
theorem dX4_comes_125 : decode cX4_comes 125 = .ok (.iload_n 2, 1) := by decide +kernel
theorem dX4_comes_126 : decode cX4_comes 126 = .ok (.iconst 1, 1) := by decide +kernel
theorem dX4_comes_127 : decode cX4_comes 127 = .ok (.iadd, 1) := by decide +kernel
theorem dX4_comes_128 : decode cX4_comes 128 = .ok (.iastore, 1) := by decide +kernel
theorem dX4_comes_129 : decode cX4_comes 129 = .ok (.aload_n 0, 1) := by decide +kernel
theorem dX4_comes_130 : decode cX4_comes 130 = .ok (.getfield 37, 3) := by decide +kernel
theorem dX4_comes_133 : decode cX4_comes 133 = .ok (.iload_n 1, 1) := by decide +kernel
theorem dX4_comes_134 : decode cX4_comes 134 = .ok (.aload_n 0, 1) := by decide +kernel
theorem dX4_comes_135 : decode cX4_comes 135 = .ok (.getfield 40, 3) := by decide +kernel
theorem dX4_comes_138 : decode cX4_comes 138 = .ok (.iload_n 1, 1) := by decide +kernel
theorem dX4_comes_139 : decode cX4_comes 139 = .ok (.iaload, 1) := by decide +kernel
theorem dX4_comes_140 : decode cX4_comes 140 = .ok (.aload_n 0, 1) := by decide +kernel
theorem dX4_comes_141 : decode cX4_comes 141 = .ok (.getfield 28, 3) := by decide +kernel
theorem dX4_comes_144 : decode cX4_comes 144 = .ok (.iload_n 1, 1) := by decide +kernel
theorem dX4_comes_145 : decode cX4_comes 145 = .ok (.iaload, 1) := by decide +kernel
theorem dX4_comes_146 : decode cX4_comes 146 = .ok (.if_icmp .ne 7, 3) := by decide +kernel
theorem dX4_comes_149 : decode cX4_comes 149 = .ok (.iconst 2, 1) := by decide +kernel
theorem dX4_comes_150 : decode cX4_comes 150 = .ok (.goto 4, 3) := by decide +kernel
theorem dX4_comes_153 : decode cX4_comes 153 = .ok (.iconst 1, 1) := by decide +kernel
theorem dX4_comes_154 : decode cX4_comes 154 = .ok (.iastore, 1) := by decide +kernel
theorem dX4_comes_155 : decode cX4_comes 155 = .ok (.aload_n 0, 1) := by decide +kernel
theorem dX4_comes_156 : decode cX4_comes 156 = .ok (.getfield 37, 3) := by decide +kernel
theorem dX4_comes_159 : decode cX4_comes 159 = .ok (.iload_n 1, 1) := by decide +kernel
theorem dX4_comes_160 : decode cX4_comes 160 = .ok (.iaload, 1) := by decide +kernel
theorem dX4_comes_161 : decode cX4_comes 161 = .ok (.iconst 2, 1) := by decide +kernel
theorem dX4_comes_162 : decode cX4_comes 162 = .ok (.if_icmp .ne 7, 3) := by decide +kernel
theorem dX4_comes_165 : decode cX4_comes 165 = .ok (.iconst 1, 1) := by decide +kernel
theorem dX4_comes_166 : decode cX4_comes 166 = .ok (.goto 4, 3) := by decide +kernel
theorem dX4_comes_169 : decode cX4_comes 169 = .ok (.iconst 0, 1) := by decide +kernel
theorem dX4_comes_170 : decode cX4_comes 170 = .ok (.ireturn, 1) := by decide +kernel
theorem dX4_toReceiver_0 : decode cX4_toReceiver 0 = .ok (.iconst 0, 1) := by decide +kernel
theorem dX4_toReceiver_1 : decode cX4_toReceiver 1 = .ok (.istore_n 2, 1) := by decide +kernel
theorem dX4_toReceiver_2 : decode cX4_toReceiver 2 = .ok (.aload_n 0, 1) := by decide +kernel
theorem dX4_toReceiver_3 : decode cX4_toReceiver 3 = .ok (.iload_n 1, 1) := by decide +kernel
theorem dX4_toReceiver_4 : decode cX4_toReceiver 4 = .ok (.iconst 1, 1) := by decide +kernel
theorem dX4_toReceiver_5 : decode cX4_toReceiver 5 = .ok (.bipush 100, 2) := by decide +kernel
theorem dX4_toReceiver_7 : decode cX4_toReceiver 7 = .ok (.invokestatic 73, 3) := by decide +kernel
theorem dX4_toReceiver_10 : decode cX4_toReceiver 10 = .ok (.invokevirtual 101, 3) := by decide +kernel
theorem dX4_toReceiver_13 : decode cX4_toReceiver 13 = .ok (.ifCond .eq 135, 3) := by decide +kernel
theorem dX4_toReceiver_16 : decode cX4_toReceiver 16 = .ok (.iconst 0, 1) := by decide +kernel
theorem dX4_toReceiver_17 : decode cX4_toReceiver 17 = .ok (.istore_n 3, 1) := by decide +kernel
theorem dX4_toReceiver_18 : decode cX4_toReceiver 18 = .ok (.iload_n 3, 1) := by decide +kernel
theorem dX4_toReceiver_19 : decode cX4_toReceiver 19 = .ok (.iload_n 1, 1) := by decide +kernel
theorem dX4_toReceiver_20 : decode cX4_toReceiver 20 = .ok (.if_icmp .ge 128, 3) := by decide +kernel
theorem dX4_toReceiver_23 : decode cX4_toReceiver 23 = .ok (.aload_n 0, 1) := by decide +kernel
theorem dX4_toReceiver_24 : decode cX4_toReceiver 24 = .ok (.getfield 115, 3) := by decide +kernel
theorem dX4_toReceiver_27 : decode cX4_toReceiver 27 = .ok (.aload_n 0, 1) := by decide +kernel
theorem dX4_toReceiver_28 : decode cX4_toReceiver 28 = .ok (.getfield 80, 3) := by decide +kernel
theorem dX4_toReceiver_31 : decode cX4_toReceiver 31 = .ok (.if_icmp .ge 117, 3) := by decide +kernel
theorem dX4_toReceiver_34 : decode cX4_toReceiver 34 = .ok (.aload_n 0, 1) := by decide +kernel
theorem dX4_toReceiver_35 : decode cX4_toReceiver 35 = .ok (.getfield 56, 3) := by decide +kernel
theorem dX4_toReceiver_38 : decode cX4_toReceiver 38 = .ok (.aload_n 0, 1) := by decide +kernel
theorem dX4_toReceiver_39 : decode cX4_toReceiver 39 = .ok (.getfield 115, 3) := by decide +kernel
theorem dX4_toReceiver_42 : decode cX4_toReceiver 42 = .ok (.sipush 2048, 3) := by decide +kernel
theorem dX4_toReceiver_45 : decode cX4_toReceiver 45 = .ok (.irem, 1) := by decide +kernel
theorem dX4_toReceiver_46 : decode cX4_toReceiver 46 = .ok (.iaload, 1) := by decide +kernel
theorem dX4_toReceiver_47 : decode cX4_toReceiver 47 = .ok (.istore 4, 2) := by decide +kernel
theorem dX4_toReceiver_49 : decode cX4_toReceiver 49 = .ok (.aload_n 0, 1) := by decide +kernel
theorem dX4_toReceiver_50 : decode cX4_toReceiver 50 = .ok (.dup, 1) := by decide +kernel
theorem dX4_toReceiver_51 : decode cX4_toReceiver 51 = .ok (.getfield 115, 3) := by decide +kernel
theorem dX4_toReceiver_54 : decode cX4_toReceiver 54 = .ok (.iconst 1, 1) := by decide +kernel
theorem dX4_toReceiver_55 : decode cX4_toReceiver 55 = .ok (.iadd, 1) := by decide +kernel
theorem dX4_toReceiver_56 : decode cX4_toReceiver 56 = .ok (.putfield 115, 3) := by decide +kernel
theorem dX4_toReceiver_59 : decode cX4_toReceiver 59 = .ok (.iload 4, 2) := by decide +kernel
theorem dX4_toReceiver_61 : decode cX4_toReceiver 61 = .ok (.ifCond .ge 41, 3) := by decide +kernel
theorem dX4_toReceiver_64 : decode cX4_toReceiver 64 = .ok (.iconst (-1), 1) := by decide +kernel
theorem dX4_toReceiver_65 : decode cX4_toReceiver 65 = .ok (.iload 4, 2) := by decide +kernel
theorem dX4_toReceiver_67 : decode cX4_toReceiver 67 = .ok (.isub, 1) := by decide +kernel
theorem dX4_toReceiver_68 : decode cX4_toReceiver 68 = .ok (.istore 5, 2) := by decide +kernel
theorem dX4_toReceiver_70 : decode cX4_toReceiver 70 = .ok (.aload_n 0, 1) := by decide +kernel
theorem dX4_toReceiver_71 : decode cX4_toReceiver 71 = .ok (.getfield 37, 3) := by decide +kernel
theorem dX4_toReceiver_74 : decode cX4_toReceiver 74 = .ok (.iload 5, 2) := by decide +kernel
theorem dX4_toReceiver_76 : decode cX4_toReceiver 76 = .ok (.aload_n 0, 1) := by decide +kernel
theorem dX4_toReceiver_77 : decode cX4_toReceiver 77 = .ok (.getfield 37, 3) := by decide +kernel
theorem dX4_toReceiver_80 : decode cX4_toReceiver 80 = .ok (.iload 5, 2) := by decide +kernel
theorem dX4_toReceiver_82 : decode cX4_toReceiver 82 = .ok (.iaload, 1) := by decide +kernel
theorem dX4_toReceiver_83 : decode cX4_toReceiver 83 = .ok (.iconst 3, 1) := by decide +kernel
theorem dX4_toReceiver_84 : decode cX4_toReceiver 84 = .ok (.if_icmp .ne 7, 3) := by decide +kernel
theorem dX4_toReceiver_87 : decode cX4_toReceiver 87 = .ok (.iconst 4, 1) := by decide +kernel
theorem dX4_toReceiver_88 : decode cX4_toReceiver 88 = .ok (.goto 10, 3) := by decide +kernel
theorem dX4_toReceiver_91 : decode cX4_toReceiver 91 = .ok (.aload_n 0, 1) := by decide +kernel
theorem dX4_toReceiver_92 : decode cX4_toReceiver 92 = .ok (.getfield 37, 3) := by decide +kernel
theorem dX4_toReceiver_95 : decode cX4_toReceiver 95 = .ok (.iload 5, 2) := by decide +kernel
theorem dX4_toReceiver_97 : decode cX4_toReceiver 97 = .ok (.iaload, 1) := by decide +kernel
theorem dX4_toReceiver_98 : decode cX4_toReceiver 98 = .ok (.iastore, 1) := by decide +kernel
theorem dX4_toReceiver_99 : decode cX4_toReceiver 99 = .ok (.goto 43, 3) := by decide +kernel
theorem dX4_toReceiver_102 : decode cX4_toReceiver 102 = .ok (.iload_n 2, 1) := by decide +kernel
theorem dX4_toReceiver_103 : decode cX4_toReceiver 103 = .ok (.aload_n 0, 1) := by decide +kernel
theorem dX4_toReceiver_104 : decode cX4_toReceiver 104 = .ok (.iload 4, 2) := by decide +kernel
theorem dX4_toReceiver_106 : decode cX4_toReceiver 106 = .ok (.bipush 16, 2) := by decide +kernel
theorem dX4_toReceiver_108 : decode cX4_toReceiver 108 = .ok (.idiv, 1) := by decide +kernel
theorem dX4_toReceiver_109 : decode cX4_toReceiver 109 = .ok (.iload 4, 2) := by decide +kernel
theorem dX4_toReceiver_111 : decode cX4_toReceiver 111 = .ok (.iconst 2, 1) := by decide +kernel
theorem dX4_toReceiver_112 : decode cX4_toReceiver 112 = .ok (.idiv, 1) := by decide +kernel
theorem dX4_toReceiver_113 : decode cX4_toReceiver 113 = .ok (.bipush 8, 2) := by decide +kernel
theorem dX4_toReceiver_115 : decode cX4_toReceiver 115 = .ok (.irem, 1) := by decide +kernel
theorem dX4_toReceiver_116 : decode cX4_toReceiver 116 = .ok (.iload 4, 2) := by decide +kernel
theorem dX4_toReceiver_118 : decode cX4_toReceiver 118 = .ok (.iconst 2, 1) := by decide +kernel
theorem dX4_toReceiver_119 : decode cX4_toReceiver 119 = .ok (.irem, 1) := by decide +kernel
theorem dX4_toReceiver_120 : decode cX4_toReceiver 120 = .ok (.iconst 1, 1) := by decide +kernel
theorem dX4_toReceiver_121 : decode cX4_toReceiver 121 = .ok (.if_icmp .ne 7, 3) := by decide +kernel
theorem dX4_toReceiver_124 : decode cX4_toReceiver 124 = .ok (.iconst 1, 1) := by decide +kernel
theorem dX4_toReceiver_125 : decode cX4_toReceiver 125 = .ok (.goto 4, 3) := by decide +kernel
theorem dX4_toReceiver_128 : decode cX4_toReceiver 128 = .ok (.iconst 0, 1) := by decide +kernel
theorem dX4_toReceiver_129 : decode cX4_toReceiver 129 = .ok (.invokevirtual 118, 3) := by decide +kernel
theorem dX4_toReceiver_132 : decode cX4_toReceiver 132 = .ok (.ifCond .eq 7, 3) := by decide +kernel
theorem dX4_toReceiver_135 : decode cX4_toReceiver 135 = .ok (.iconst 1, 1) := by decide +kernel
theorem dX4_toReceiver_136 : decode cX4_toReceiver 136 = .ok (.goto 4, 3) := by decide +kernel
theorem dX4_toReceiver_139 : decode cX4_toReceiver 139 = .ok (.iconst 0, 1) := by decide +kernel
theorem dX4_toReceiver_140 : decode cX4_toReceiver 140 = .ok (.iadd, 1) := by decide +kernel
theorem dX4_toReceiver_141 : decode cX4_toReceiver 141 = .ok (.istore_n 2, 1) := by decide +kernel
theorem dX4_toReceiver_142 : decode cX4_toReceiver 142 = .ok (.iinc 3 1, 3) := by decide +kernel
theorem dX4_toReceiver_145 : decode cX4_toReceiver 145 = .ok (.goto (-127), 3) := by decide +kernel
theorem dX4_toReceiver_148 : decode cX4_toReceiver 148 = .ok (.iload_n 2, 1) := by decide +kernel
theorem dX4_toReceiver_149 : decode cX4_toReceiver 149 = .ok (.ireturn, 1) := by decide +kernel
theorem dX4_toSender_0 : decode cX4_toSender 0 = .ok (.iconst 0, 1) := by decide +kernel
theorem dX4_toSender_1 : decode cX4_toSender 1 = .ok (.istore_n 2, 1) := by decide +kernel
theorem dX4_toSender_2 : decode cX4_toSender 2 = .ok (.aload_n 0, 1) := by decide +kernel
theorem dX4_toSender_3 : decode cX4_toSender 3 = .ok (.iload_n 1, 1) := by decide +kernel
theorem dX4_toSender_4 : decode cX4_toSender 4 = .ok (.iconst 1, 1) := by decide +kernel
theorem dX4_toSender_5 : decode cX4_toSender 5 = .ok (.bipush 100, 2) := by decide +kernel
theorem dX4_toSender_7 : decode cX4_toSender 7 = .ok (.invokestatic 73, 3) := by decide +kernel
theorem dX4_toSender_10 : decode cX4_toSender 10 = .ok (.invokevirtual 101, 3) := by decide +kernel
theorem dX4_toSender_13 : decode cX4_toSender 13 = .ok (.ifCond .eq 136, 3) := by decide +kernel
theorem dX4_toSender_16 : decode cX4_toSender 16 = .ok (.iconst 0, 1) := by decide +kernel
theorem dX4_toSender_17 : decode cX4_toSender 17 = .ok (.istore_n 3, 1) := by decide +kernel
theorem dX4_toSender_18 : decode cX4_toSender 18 = .ok (.iload_n 3, 1) := by decide +kernel
theorem dX4_toSender_19 : decode cX4_toSender 19 = .ok (.iload_n 1, 1) := by decide +kernel
theorem dX4_toSender_20 : decode cX4_toSender 20 = .ok (.if_icmp .ge 129, 3) := by decide +kernel
theorem dX4_toSender_23 : decode cX4_toSender 23 = .ok (.aload_n 0, 1) := by decide +kernel
theorem dX4_toSender_24 : decode cX4_toSender 24 = .ok (.getfield 122, 3) := by decide +kernel
theorem dX4_toSender_27 : decode cX4_toSender 27 = .ok (.aload_n 0, 1) := by decide +kernel
theorem dX4_toSender_28 : decode cX4_toSender 28 = .ok (.getfield 83, 3) := by decide +kernel
theorem dX4_toSender_31 : decode cX4_toSender 31 = .ok (.if_icmp .ge 118, 3) := by decide +kernel
theorem dX4_toSender_34 : decode cX4_toSender 34 = .ok (.aload_n 0, 1) := by decide +kernel
theorem dX4_toSender_35 : decode cX4_toSender 35 = .ok (.getfield 59, 3) := by decide +kernel
theorem dX4_toSender_38 : decode cX4_toSender 38 = .ok (.aload_n 0, 1) := by decide +kernel
theorem dX4_toSender_39 : decode cX4_toSender 39 = .ok (.getfield 122, 3) := by decide +kernel
theorem dX4_toSender_42 : decode cX4_toSender 42 = .ok (.sipush 2048, 3) := by decide +kernel
theorem dX4_toSender_45 : decode cX4_toSender 45 = .ok (.irem, 1) := by decide +kernel
theorem dX4_toSender_46 : decode cX4_toSender 46 = .ok (.iaload, 1) := by decide +kernel
theorem dX4_toSender_47 : decode cX4_toSender 47 = .ok (.istore 4, 2) := by decide +kernel
theorem dX4_toSender_49 : decode cX4_toSender 49 = .ok (.aload_n 0, 1) := by decide +kernel
theorem dX4_toSender_50 : decode cX4_toSender 50 = .ok (.dup, 1) := by decide +kernel
theorem dX4_toSender_51 : decode cX4_toSender 51 = .ok (.getfield 122, 3) := by decide +kernel
theorem dX4_toSender_54 : decode cX4_toSender 54 = .ok (.iconst 1, 1) := by decide +kernel
theorem dX4_toSender_55 : decode cX4_toSender 55 = .ok (.iadd, 1) := by decide +kernel
theorem dX4_toSender_56 : decode cX4_toSender 56 = .ok (.putfield 122, 3) := by decide +kernel
theorem dX4_toSender_59 : decode cX4_toSender 59 = .ok (.iload 4, 2) := by decide +kernel
theorem dX4_toSender_61 : decode cX4_toSender 61 = .ok (.ifCond .ge 25, 3) := by decide +kernel
theorem dX4_toSender_64 : decode cX4_toSender 64 = .ok (.aload_n 0, 1) := by decide +kernel
theorem dX4_toSender_65 : decode cX4_toSender 65 = .ok (.getfield 16, 3) := by decide +kernel
theorem dX4_toSender_68 : decode cX4_toSender 68 = .ok (.iconst (-1), 1) := by decide +kernel
theorem dX4_toSender_69 : decode cX4_toSender 69 = .ok (.iload 4, 2) := by decide +kernel
theorem dX4_toSender_71 : decode cX4_toSender 71 = .ok (.isub, 1) := by decide +kernel
theorem dX4_toSender_72 : decode cX4_toSender 72 = .ok (.bipush 16, 2) := by decide +kernel
theorem dX4_toSender_74 : decode cX4_toSender 74 = .ok (.idiv, 1) := by decide +kernel
theorem dX4_toSender_75 : decode cX4_toSender 75 = .ok (.iconst (-1), 1) := by decide +kernel
theorem dX4_toSender_76 : decode cX4_toSender 76 = .ok (.iload 4, 2) := by decide +kernel
theorem dX4_toSender_78 : decode cX4_toSender 78 = .ok (.isub, 1) := by decide +kernel
theorem dX4_toSender_79 : decode cX4_toSender 79 = .ok (.bipush 16, 2) := by decide +kernel
theorem dX4_toSender_81 : decode cX4_toSender 81 = .ok (.irem, 1) := by decide +kernel
theorem dX4_toSender_82 : decode cX4_toSender 82 = .ok (.iastore, 1) := by decide +kernel
theorem dX4_toSender_83 : decode cX4_toSender 83 = .ok (.goto 60, 3) := by decide +kernel
theorem dX4_toSender_86 : decode cX4_toSender 86 = .ok (.iload 4, 2) := by decide +kernel
theorem dX4_toSender_88 : decode cX4_toSender 88 = .ok (.iconst 4, 1) := by decide +kernel
theorem dX4_toSender_89 : decode cX4_toSender 89 = .ok (.idiv, 1) := by decide +kernel
theorem dX4_toSender_90 : decode cX4_toSender 90 = .ok (.istore 5, 2) := by decide +kernel
theorem dX4_toSender_92 : decode cX4_toSender 92 = .ok (.aload_n 0, 1) := by decide +kernel
theorem dX4_toSender_93 : decode cX4_toSender 93 = .ok (.getfield 31, 3) := by decide +kernel
theorem dX4_toSender_96 : decode cX4_toSender 96 = .ok (.iload 5, 2) := by decide +kernel
theorem dX4_toSender_98 : decode cX4_toSender 98 = .ok (.iaload, 1) := by decide +kernel
theorem dX4_toSender_99 : decode cX4_toSender 99 = .ok (.ifCond .ne 25, 3) := by decide +kernel
theorem dX4_toSender_102 : decode cX4_toSender 102 = .ok (.aload_n 0, 1) := by decide +kernel
theorem dX4_toSender_103 : decode cX4_toSender 103 = .ok (.getfield 31, 3) := by decide +kernel
theorem dX4_toSender_106 : decode cX4_toSender 106 = .ok (.iload 5, 2) := by decide +kernel
theorem dX4_toSender_108 : decode cX4_toSender 108 = .ok (.iconst 1, 1) := by decide +kernel
theorem dX4_toSender_109 : decode cX4_toSender 109 = .ok (.iastore, 1) := by decide +kernel
theorem dX4_toSender_110 : decode cX4_toSender 110 = .ok (.aload_n 0, 1) := by decide +kernel
theorem dX4_toSender_111 : decode cX4_toSender 111 = .ok (.getfield 34, 3) := by decide +kernel
theorem dX4_toSender_114 : decode cX4_toSender 114 = .ok (.iload 5, 2) := by decide +kernel
theorem dX4_toSender_116 : decode cX4_toSender 116 = .ok (.iload 4, 2) := by decide +kernel
theorem dX4_toSender_118 : decode cX4_toSender 118 = .ok (.iconst 4, 1) := by decide +kernel
end
section
theorem dX4_toSender_119 : decode cX4_toSender 119 = .ok (.irem, 1) := by decide +kernel
theorem dX4_toSender_120 : decode cX4_toSender 120 = .ok (.iastore, 1) := by decide +kernel
theorem dX4_toSender_121 : decode cX4_toSender 121 = .ok (.iinc 2 1, 3) := by decide +kernel
theorem dX4_toSender_124 : decode cX4_toSender 124 = .ok (.aload_n 0, 1) := by decide +kernel
theorem dX4_toSender_125 : decode cX4_toSender 125 = .ok (.getfield 25, 3) := by decide +kernel
theorem dX4_toSender_128 : decode cX4_toSender 128 = .ok (.iload 5, 2) := by decide +kernel
theorem dX4_toSender_130 : decode cX4_toSender 130 = .ok (.iaload, 1) := by decide +kernel
theorem dX4_toSender_131 : decode cX4_toSender 131 = .ok (.iconst 2, 1) := by decide +kernel
theorem dX4_toSender_132 : decode cX4_toSender 132 = .ok (.if_icmp .ne 11, 3) := by decide +kernel
theorem dX4_toSender_135 : decode cX4_toSender 135 = .ok (.aload_n 0, 1) := by decide +kernel
theorem dX4_toSender_136 : decode cX4_toSender 136 = .ok (.iconst (-1), 1) := by decide +kernel
theorem dX4_toSender_137 : decode cX4_toSender 137 = .ok (.iload 5, 2) := by decide +kernel
theorem dX4_toSender_139 : decode cX4_toSender 139 = .ok (.isub, 1) := by decide +kernel
theorem dX4_toSender_140 : decode cX4_toSender 140 = .ok (.invokevirtual 108, 3) := by decide +kernel
theorem dX4_toSender_143 : decode cX4_toSender 143 = .ok (.iinc 3 1, 3) := by decide +kernel
theorem dX4_toSender_146 : decode cX4_toSender 146 = .ok (.goto (-128), 3) := by decide +kernel
theorem dX4_toSender_149 : decode cX4_toSender 149 = .ok (.iload_n 2, 1) := by decide +kernel
theorem dX4_toSender_150 : decode cX4_toSender 150 = .ok (.ireturn, 1) := by decide +kernel
theorem dX4_decides_0 : decode cX4_decides 0 = .ok (.aload_n 0, 1) := by decide +kernel
theorem dX4_decides_1 : decode cX4_decides 1 = .ok (.getfield 50, 3) := by decide +kernel
theorem dX4_decides_4 : decode cX4_decides 4 = .ok (.iload_n 1, 1) := by decide +kernel
theorem dX4_decides_5 : decode cX4_decides 5 = .ok (.dup2, 1) := by decide +kernel
theorem dX4_decides_6 : decode cX4_decides 6 = .ok (.iaload, 1) := by decide +kernel
theorem dX4_decides_7 : decode cX4_decides 7 = .ok (.iload_n 2, 1) := by decide +kernel
theorem dX4_decides_8 : decode cX4_decides 8 = .ok (.ifCond .ne 7, 3) := by decide +kernel
theorem dX4_decides_11 : decode cX4_decides 11 = .ok (.iconst 1, 1) := by decide +kernel
theorem dX4_decides_12 : decode cX4_decides 12 = .ok (.goto 4, 3) := by decide +kernel
theorem dX4_decides_15 : decode cX4_decides 15 = .ok (.iconst 0, 1) := by decide +kernel
theorem dX4_decides_16 : decode cX4_decides 16 = .ok (.iadd, 1) := by decide +kernel
theorem dX4_decides_17 : decode cX4_decides 17 = .ok (.iastore, 1) := by decide +kernel
theorem dX4_decides_18 : decode cX4_decides 18 = .ok (.aload_n 0, 1) := by decide +kernel
theorem dX4_decides_19 : decode cX4_decides 19 = .ok (.getfield 47, 3) := by decide +kernel
theorem dX4_decides_22 : decode cX4_decides 22 = .ok (.iload_n 1, 1) := by decide +kernel
theorem dX4_decides_23 : decode cX4_decides 23 = .ok (.iload_n 2, 1) := by decide +kernel
theorem dX4_decides_24 : decode cX4_decides 24 = .ok (.iastore, 1) := by decide +kernel
theorem dX4_decides_25 : decode cX4_decides 25 = .ok (.aload_n 0, 1) := by decide +kernel
theorem dX4_decides_26 : decode cX4_decides 26 = .ok (.getfield 37, 3) := by decide +kernel
theorem dX4_decides_29 : decode cX4_decides 29 = .ok (.iload_n 1, 1) := by decide +kernel
theorem dX4_decides_30 : decode cX4_decides 30 = .ok (.aload_n 0, 1) := by decide +kernel
theorem dX4_decides_31 : decode cX4_decides 31 = .ok (.getfield 25, 3) := by decide +kernel
theorem dX4_decides_34 : decode cX4_decides 34 = .ok (.iload_n 1, 1) := by decide +kernel
theorem dX4_decides_35 : decode cX4_decides 35 = .ok (.iaload, 1) := by decide +kernel
theorem dX4_decides_36 : decode cX4_decides 36 = .ok (.iconst 2, 1) := by decide +kernel
theorem dX4_decides_37 : decode cX4_decides 37 = .ok (.if_icmp .ne 7, 3) := by decide +kernel
theorem dX4_decides_40 : decode cX4_decides 40 = .ok (.iconst 3, 1) := by decide +kernel
theorem dX4_decides_41 : decode cX4_decides 41 = .ok (.goto 4, 3) := by decide +kernel
theorem dX4_decides_44 : decode cX4_decides 44 = .ok (.iconst 4, 1) := by decide +kernel
theorem dX4_decides_45 : decode cX4_decides 45 = .ok (.iastore, 1) := by decide +kernel
theorem dX4_decides_46 : decode cX4_decides 46 = .ok (.aload_n 0, 1) := by decide +kernel
theorem dX4_decides_47 : decode cX4_decides 47 = .ok (.getfield 25, 3) := by decide +kernel
theorem dX4_decides_50 : decode cX4_decides 50 = .ok (.iload_n 1, 1) := by decide +kernel
theorem dX4_decides_51 : decode cX4_decides 51 = .ok (.iaload, 1) := by decide +kernel
theorem dX4_decides_52 : decode cX4_decides 52 = .ok (.ifCond .eq 12, 3) := by decide +kernel
theorem dX4_decides_55 : decode cX4_decides 55 = .ok (.aload_n 0, 1) := by decide +kernel
theorem dX4_decides_56 : decode cX4_decides 56 = .ok (.iconst 4, 1) := by decide +kernel
theorem dX4_decides_57 : decode cX4_decides 57 = .ok (.iload_n 1, 1) := by decide +kernel
theorem dX4_decides_58 : decode cX4_decides 58 = .ok (.imul, 1) := by decide +kernel
theorem dX4_decides_59 : decode cX4_decides 59 = .ok (.iload_n 2, 1) := by decide +kernel
theorem dX4_decides_60 : decode cX4_decides 60 = .ok (.iadd, 1) := by decide +kernel
theorem dX4_decides_61 : decode cX4_decides 61 = .ok (.invokevirtual 97, 3) := by decide +kernel
theorem dX4_decides_64 : decode cX4_decides 64 = .ok (.return_, 1) := by decide +kernel
theorem dX4_decide_0 : decode cX4_decide 0 = .ok (.aload_n 0, 1) := by decide +kernel
theorem dX4_decide_1 : decode cX4_decide 1 = .ok (.iload_n 1, 1) := by decide +kernel
theorem dX4_decide_2 : decode cX4_decide 2 = .ok (.invokevirtual 125, 3) := by decide +kernel
theorem dX4_decide_5 : decode cX4_decide 5 = .ok (.istore_n 3, 1) := by decide +kernel
theorem dX4_decide_6 : decode cX4_decide 6 = .ok (.aload_n 0, 1) := by decide +kernel
theorem dX4_decide_7 : decode cX4_decide 7 = .ok (.iload_n 3, 1) := by decide +kernel
theorem dX4_decide_8 : decode cX4_decide 8 = .ok (.iload_n 2, 1) := by decide +kernel
theorem dX4_decide_9 : decode cX4_decide 9 = .ok (.iconst 0, 1) := by decide +kernel
theorem dX4_decide_10 : decode cX4_decide 10 = .ok (.iconst 2, 1) := by decide +kernel
theorem dX4_decide_11 : decode cX4_decide 11 = .ok (.invokestatic 73, 3) := by decide +kernel
theorem dX4_decide_14 : decode cX4_decide 14 = .ok (.iload_n 3, 1) := by decide +kernel
theorem dX4_decide_15 : decode cX4_decide 15 = .ok (.ifCond .eq 34, 3) := by decide +kernel
theorem dX4_decide_18 : decode cX4_decide 18 = .ok (.aload_n 0, 1) := by decide +kernel
theorem dX4_decide_19 : decode cX4_decide 19 = .ok (.getfield 62, 3) := by decide +kernel
theorem dX4_decide_22 : decode cX4_decide 22 = .ok (.ifCond .eq 27, 3) := by decide +kernel
theorem dX4_decide_25 : decode cX4_decide 25 = .ok (.aload_n 0, 1) := by decide +kernel
theorem dX4_decide_26 : decode cX4_decide 26 = .ok (.getfield 37, 3) := by decide +kernel
theorem dX4_decide_29 : decode cX4_decide 29 = .ok (.iload_n 1, 1) := by decide +kernel
theorem dX4_decide_30 : decode cX4_decide 30 = .ok (.iaload, 1) := by decide +kernel
theorem dX4_decide_31 : decode cX4_decide 31 = .ok (.iconst 2, 1) := by decide +kernel
theorem dX4_decide_32 : decode cX4_decide 32 = .ok (.if_icmp .ne 17, 3) := by decide +kernel
theorem dX4_decide_35 : decode cX4_decide 35 = .ok (.aload_n 0, 1) := by decide +kernel
theorem dX4_decide_36 : decode cX4_decide 36 = .ok (.getfield 53, 3) := by decide +kernel
theorem dX4_decide_39 : decode cX4_decide 39 = .ok (.iload_n 1, 1) := by decide +kernel
theorem dX4_decide_40 : decode cX4_decide 40 = .ok (.iaload, 1) := by decide +kernel
theorem dX4_decide_41 : decode cX4_decide 41 = .ok (.iconst (-1), 1) := by decide +kernel
theorem dX4_decide_42 : decode cX4_decide 42 = .ok (.if_icmp .ne 7, 3) := by decide +kernel
theorem dX4_decide_45 : decode cX4_decide 45 = .ok (.iconst 1, 1) := by decide +kernel
theorem dX4_decide_46 : decode cX4_decide 46 = .ok (.goto 4, 3) := by decide +kernel
theorem dX4_decide_49 : decode cX4_decide 49 = .ok (.iconst 0, 1) := by decide +kernel
theorem dX4_decide_50 : decode cX4_decide 50 = .ok (.invokevirtual 94, 3) := by decide +kernel
theorem dX4_decide_53 : decode cX4_decide 53 = .ok (.ifCond .ne 5, 3) := by decide +kernel
theorem dX4_decide_56 : decode cX4_decide 56 = .ok (.iconst 0, 1) := by decide +kernel
theorem dX4_decide_57 : decode cX4_decide 57 = .ok (.ireturn, 1) := by decide +kernel
theorem dX4_decide_58 : decode cX4_decide 58 = .ok (.aload_n 0, 1) := by decide +kernel
theorem dX4_decide_59 : decode cX4_decide 59 = .ok (.iload_n 1, 1) := by decide +kernel
theorem dX4_decide_60 : decode cX4_decide 60 = .ok (.iload_n 2, 1) := by decide +kernel
theorem dX4_decide_61 : decode cX4_decide 61 = .ok (.invokevirtual 128, 3) := by decide +kernel
theorem dX4_decide_64 : decode cX4_decide 64 = .ok (.aload_n 0, 1) := by decide +kernel
theorem dX4_decide_65 : decode cX4_decide 65 = .ok (.getfield 50, 3) := by decide +kernel
theorem dX4_decide_68 : decode cX4_decide 68 = .ok (.iload_n 1, 1) := by decide +kernel
theorem dX4_decide_69 : decode cX4_decide 69 = .ok (.iaload, 1) := by decide +kernel
theorem dX4_decide_70 : decode cX4_decide 70 = .ok (.ireturn, 1) := by decide +kernel
theorem dX4_deliveries_0 : decode cX4_deliveries 0 = .ok (.aload_n 0, 1) := by decide +kernel
theorem dX4_deliveries_1 : decode cX4_deliveries 1 = .ok (.aload_n 0, 1) := by decide +kernel
theorem dX4_deliveries_2 : decode cX4_deliveries 2 = .ok (.getfield 77, 3) := by decide +kernel
theorem dX4_deliveries_5 : decode cX4_deliveries 5 = .ok (.invokevirtual 131, 3) := by decide +kernel
theorem dX4_deliveries_8 : decode cX4_deliveries 8 = .ok (.ireturn, 1) := by decide +kernel
theorem dX4_underWay_0 : decode cX4_underWay 0 = .ok (.aload_n 0, 1) := by decide +kernel
theorem dX4_underWay_1 : decode cX4_underWay 1 = .ok (.aload_n 0, 1) := by decide +kernel
theorem dX4_underWay_2 : decode cX4_underWay 2 = .ok (.getfield 80, 3) := by decide +kernel
theorem dX4_underWay_5 : decode cX4_underWay 5 = .ok (.aload_n 0, 1) := by decide +kernel
theorem dX4_underWay_6 : decode cX4_underWay 6 = .ok (.getfield 115, 3) := by decide +kernel
theorem dX4_underWay_9 : decode cX4_underWay 9 = .ok (.isub, 1) := by decide +kernel
theorem dX4_underWay_10 : decode cX4_underWay 10 = .ok (.invokevirtual 131, 3) := by decide +kernel
theorem dX4_underWay_13 : decode cX4_underWay 13 = .ok (.ireturn, 1) := by decide +kernel
theorem dX4_backUnderWay_0 : decode cX4_backUnderWay 0 = .ok (.aload_n 0, 1) := by decide +kernel
theorem dX4_backUnderWay_1 : decode cX4_backUnderWay 1 = .ok (.aload_n 0, 1) := by decide +kernel
theorem dX4_backUnderWay_2 : decode cX4_backUnderWay 2 = .ok (.getfield 83, 3) := by decide +kernel
theorem dX4_backUnderWay_5 : decode cX4_backUnderWay 5 = .ok (.aload_n 0, 1) := by decide +kernel
theorem dX4_backUnderWay_6 : decode cX4_backUnderWay 6 = .ok (.getfield 122, 3) := by decide +kernel
theorem dX4_backUnderWay_9 : decode cX4_backUnderWay 9 = .ok (.isub, 1) := by decide +kernel
theorem dX4_backUnderWay_10 : decode cX4_backUnderWay 10 = .ok (.invokevirtual 131, 3) := by decide +kernel
theorem dX4_backUnderWay_13 : decode cX4_backUnderWay 13 = .ok (.ireturn, 1) := by decide +kernel
theorem dX4_forSender_0 : decode cX4_forSender 0 = .ok (.aload_n 0, 1) := by decide +kernel
theorem dX4_forSender_1 : decode cX4_forSender 1 = .ok (.aload_n 0, 1) := by decide +kernel
theorem dX4_forSender_2 : decode cX4_forSender 2 = .ok (.iload_n 1, 1) := by decide +kernel
theorem dX4_forSender_3 : decode cX4_forSender 3 = .ok (.invokevirtual 125, 3) := by decide +kernel
theorem dX4_forSender_6 : decode cX4_forSender 6 = .ok (.invokevirtual 101, 3) := by decide +kernel
theorem dX4_forSender_9 : decode cX4_forSender 9 = .ok (.ifCond .eq 12, 3) := by decide +kernel
theorem dX4_forSender_12 : decode cX4_forSender 12 = .ok (.aload_n 0, 1) := by decide +kernel
theorem dX4_forSender_13 : decode cX4_forSender 13 = .ok (.getfield 31, 3) := by decide +kernel
theorem dX4_forSender_16 : decode cX4_forSender 16 = .ok (.iload_n 1, 1) := by decide +kernel
theorem dX4_forSender_17 : decode cX4_forSender 17 = .ok (.iaload, 1) := by decide +kernel
theorem dX4_forSender_18 : decode cX4_forSender 18 = .ok (.goto 4, 3) := by decide +kernel
theorem dX4_forSender_21 : decode cX4_forSender 21 = .ok (.iconst 0, 1) := by decide +kernel
theorem dX4_forSender_22 : decode cX4_forSender 22 = .ok (.ireturn, 1) := by decide +kernel
theorem dX4_heard_0 : decode cX4_heard 0 = .ok (.aload_n 0, 1) := by decide +kernel
theorem dX4_heard_1 : decode cX4_heard 1 = .ok (.aload_n 0, 1) := by decide +kernel
theorem dX4_heard_2 : decode cX4_heard 2 = .ok (.iload_n 1, 1) := by decide +kernel
theorem dX4_heard_3 : decode cX4_heard 3 = .ok (.invokevirtual 125, 3) := by decide +kernel
theorem dX4_heard_6 : decode cX4_heard 6 = .ok (.invokevirtual 101, 3) := by decide +kernel
theorem dX4_heard_9 : decode cX4_heard 9 = .ok (.ifCond .eq 12, 3) := by decide +kernel
theorem dX4_heard_12 : decode cX4_heard 12 = .ok (.aload_n 0, 1) := by decide +kernel
theorem dX4_heard_13 : decode cX4_heard 13 = .ok (.getfield 34, 3) := by decide +kernel
theorem dX4_heard_16 : decode cX4_heard 16 = .ok (.iload_n 1, 1) := by decide +kernel
theorem dX4_heard_17 : decode cX4_heard 17 = .ok (.iaload, 1) := by decide +kernel
theorem dX4_heard_18 : decode cX4_heard 18 = .ok (.goto 4, 3) := by decide +kernel
theorem dX4_heard_21 : decode cX4_heard 21 = .ok (.iconst 0, 1) := by decide +kernel
theorem dX4_heard_22 : decode cX4_heard 22 = .ok (.ireturn, 1) := by decide +kernel
theorem dX4_forReceiver_0 : decode cX4_forReceiver 0 = .ok (.aload_n 0, 1) := by decide +kernel
theorem dX4_forReceiver_1 : decode cX4_forReceiver 1 = .ok (.aload_n 0, 1) := by decide +kernel
theorem dX4_forReceiver_2 : decode cX4_forReceiver 2 = .ok (.iload_n 1, 1) := by decide +kernel
theorem dX4_forReceiver_3 : decode cX4_forReceiver 3 = .ok (.invokevirtual 125, 3) := by decide +kernel
theorem dX4_forReceiver_6 : decode cX4_forReceiver 6 = .ok (.invokevirtual 101, 3) := by decide +kernel
theorem dX4_forReceiver_9 : decode cX4_forReceiver 9 = .ok (.ifCond .eq 12, 3) := by decide +kernel
theorem dX4_forReceiver_12 : decode cX4_forReceiver 12 = .ok (.aload_n 0, 1) := by decide +kernel
theorem dX4_forReceiver_13 : decode cX4_forReceiver 13 = .ok (.getfield 37, 3) := by decide +kernel
theorem dX4_forReceiver_16 : decode cX4_forReceiver 16 = .ok (.iload_n 1, 1) := by decide +kernel
theorem dX4_forReceiver_17 : decode cX4_forReceiver 17 = .ok (.iaload, 1) := by decide +kernel
theorem dX4_forReceiver_18 : decode cX4_forReceiver 18 = .ok (.goto 4, 3) := by decide +kernel
theorem dX4_forReceiver_21 : decode cX4_forReceiver 21 = .ok (.iconst 0, 1) := by decide +kernel
theorem dX4_forReceiver_22 : decode cX4_forReceiver 22 = .ok (.ireturn, 1) := by decide +kernel
theorem dX4_effects_0 : decode cX4_effects 0 = .ok (.aload_n 0, 1) := by decide +kernel
theorem dX4_effects_1 : decode cX4_effects 1 = .ok (.aload_n 0, 1) := by decide +kernel
theorem dX4_effects_2 : decode cX4_effects 2 = .ok (.iload_n 1, 1) := by decide +kernel
theorem dX4_effects_3 : decode cX4_effects 3 = .ok (.invokevirtual 125, 3) := by decide +kernel
theorem dX4_effects_6 : decode cX4_effects 6 = .ok (.invokevirtual 101, 3) := by decide +kernel
theorem dX4_effects_9 : decode cX4_effects 9 = .ok (.ifCond .eq 12, 3) := by decide +kernel
theorem dX4_effects_12 : decode cX4_effects 12 = .ok (.aload_n 0, 1) := by decide +kernel
theorem dX4_effects_13 : decode cX4_effects 13 = .ok (.getfield 50, 3) := by decide +kernel
theorem dX4_effects_16 : decode cX4_effects 16 = .ok (.iload_n 1, 1) := by decide +kernel
theorem dX4_effects_17 : decode cX4_effects 17 = .ok (.iaload, 1) := by decide +kernel
theorem dX4_effects_18 : decode cX4_effects 18 = .ok (.goto 4, 3) := by decide +kernel
theorem dX4_effects_21 : decode cX4_effects 21 = .ok (.iconst 0, 1) := by decide +kernel
theorem dX4_effects_22 : decode cX4_effects 22 = .ok (.ireturn, 1) := by decide +kernel
theorem dX4_drops_0 : decode cX4_drops 0 = .ok (.iconst 0, 1) := by decide +kernel
theorem dX4_drops_1 : decode cX4_drops 1 = .ok (.istore_n 1, 1) := by decide +kernel
theorem dX4_drops_2 : decode cX4_drops 2 = .ok (.iload_n 1, 1) := by decide +kernel
theorem dX4_drops_3 : decode cX4_drops 3 = .ok (.aload_n 0, 1) := by decide +kernel
theorem dX4_drops_4 : decode cX4_drops 4 = .ok (.getfield 134, 3) := by decide +kernel
theorem dX4_drops_7 : decode cX4_drops 7 = .ok (.if_icmp .ge 21, 3) := by decide +kernel
theorem dX4_drops_10 : decode cX4_drops 10 = .ok (.aload_n 0, 1) := by decide +kernel
theorem dX4_drops_11 : decode cX4_drops 11 = .ok (.getfield 53, 3) := by decide +kernel
theorem dX4_drops_14 : decode cX4_drops 14 = .ok (.aload_n 0, 1) := by decide +kernel
theorem dX4_drops_15 : decode cX4_drops 15 = .ok (.getfield 66, 3) := by decide +kernel
theorem dX4_drops_18 : decode cX4_drops 18 = .ok (.iload_n 1, 1) := by decide +kernel
theorem dX4_drops_19 : decode cX4_drops 19 = .ok (.iaload, 1) := by decide +kernel
theorem dX4_drops_20 : decode cX4_drops 20 = .ok (.iconst (-1), 1) := by decide +kernel
theorem dX4_drops_21 : decode cX4_drops 21 = .ok (.iastore, 1) := by decide +kernel
theorem dX4_drops_22 : decode cX4_drops 22 = .ok (.iinc 1 1, 3) := by decide +kernel
theorem dX4_drops_25 : decode cX4_drops 25 = .ok (.goto (-23), 3) := by decide +kernel
theorem dX4_drops_28 : decode cX4_drops 28 = .ok (.aload_n 0, 1) := by decide +kernel
theorem dX4_drops_29 : decode cX4_drops 29 = .ok (.iconst 0, 1) := by decide +kernel
theorem dX4_drops_30 : decode cX4_drops 30 = .ok (.putfield 134, 3) := by decide +kernel
theorem dX4_drops_33 : decode cX4_drops 33 = .ok (.aload_n 0, 1) := by decide +kernel
theorem dX4_drops_34 : decode cX4_drops 34 = .ok (.iconst 0, 1) := by decide +kernel
theorem dX4_drops_35 : decode cX4_drops 35 = .ok (.putfield 137, 3) := by decide +kernel
theorem dX4_drops_38 : decode cX4_drops 38 = .ok (.return_, 1) := by decide +kernel
theorem dX4_breakOff_0 : decode cX4_breakOff 0 = .ok (.aload_n 0, 1) := by decide +kernel
theorem dX4_breakOff_1 : decode cX4_breakOff 1 = .ok (.aload_n 0, 1) := by decide +kernel
theorem dX4_breakOff_2 : decode cX4_breakOff 2 = .ok (.getfield 62, 3) := by decide +kernel
theorem dX4_breakOff_5 : decode cX4_breakOff 5 = .ok (.invokevirtual 101, 3) := by decide +kernel
theorem dX4_breakOff_8 : decode cX4_breakOff 8 = .ok (.ifCond .ne 5, 3) := by decide +kernel
theorem dX4_breakOff_11 : decode cX4_breakOff 11 = .ok (.iconst 0, 1) := by decide +kernel
theorem dX4_breakOff_12 : decode cX4_breakOff 12 = .ok (.ireturn, 1) := by decide +kernel
theorem dX4_breakOff_13 : decode cX4_breakOff 13 = .ok (.aload_n 0, 1) := by decide +kernel
theorem dX4_breakOff_14 : decode cX4_breakOff 14 = .ok (.getfield 80, 3) := by decide +kernel
theorem dX4_breakOff_17 : decode cX4_breakOff 17 = .ok (.aload_n 0, 1) := by decide +kernel
theorem dX4_breakOff_18 : decode cX4_breakOff 18 = .ok (.getfield 115, 3) := by decide +kernel
theorem dX4_breakOff_21 : decode cX4_breakOff 21 = .ok (.isub, 1) := by decide +kernel
theorem dX4_breakOff_22 : decode cX4_breakOff 22 = .ok (.aload_n 0, 1) := by decide +kernel
theorem dX4_breakOff_23 : decode cX4_breakOff 23 = .ok (.getfield 83, 3) := by decide +kernel
theorem dX4_breakOff_26 : decode cX4_breakOff 26 = .ok (.iadd, 1) := by decide +kernel
theorem dX4_breakOff_27 : decode cX4_breakOff 27 = .ok (.aload_n 0, 1) := by decide +kernel
theorem dX4_breakOff_28 : decode cX4_breakOff 28 = .ok (.getfield 122, 3) := by decide +kernel
theorem dX4_breakOff_31 : decode cX4_breakOff 31 = .ok (.isub, 1) := by decide +kernel
theorem dX4_breakOff_32 : decode cX4_breakOff 32 = .ok (.istore_n 1, 1) := by decide +kernel
theorem dX4_breakOff_33 : decode cX4_breakOff 33 = .ok (.aload_n 0, 1) := by decide +kernel
theorem dX4_breakOff_34 : decode cX4_breakOff 34 = .ok (.aload_n 0, 1) := by decide +kernel
theorem dX4_breakOff_35 : decode cX4_breakOff 35 = .ok (.getfield 80, 3) := by decide +kernel
theorem dX4_breakOff_38 : decode cX4_breakOff 38 = .ok (.putfield 115, 3) := by decide +kernel
theorem dX4_breakOff_41 : decode cX4_breakOff 41 = .ok (.aload_n 0, 1) := by decide +kernel
theorem dX4_breakOff_42 : decode cX4_breakOff 42 = .ok (.aload_n 0, 1) := by decide +kernel
theorem dX4_breakOff_43 : decode cX4_breakOff 43 = .ok (.getfield 83, 3) := by decide +kernel
theorem dX4_breakOff_46 : decode cX4_breakOff 46 = .ok (.putfield 122, 3) := by decide +kernel
theorem dX4_breakOff_49 : decode cX4_breakOff 49 = .ok (.aload_n 0, 1) := by decide +kernel
theorem dX4_breakOff_50 : decode cX4_breakOff 50 = .ok (.iconst 0, 1) := by decide +kernel
theorem dX4_breakOff_51 : decode cX4_breakOff 51 = .ok (.putfield 62, 3) := by decide +kernel
theorem dX4_breakOff_54 : decode cX4_breakOff 54 = .ok (.aload_n 0, 1) := by decide +kernel
theorem dX4_breakOff_55 : decode cX4_breakOff 55 = .ok (.invokevirtual 140, 3) := by decide +kernel
theorem dX4_breakOff_58 : decode cX4_breakOff 58 = .ok (.iload_n 1, 1) := by decide +kernel
theorem dX4_breakOff_59 : decode cX4_breakOff 59 = .ok (.ireturn, 1) := by decide +kernel
theorem dX4_isSentAnew_0 : decode cX4_isSentAnew 0 = .ok (.aload_n 0, 1) := by decide +kernel
theorem dX4_isSentAnew_1 : decode cX4_isSentAnew 1 = .ok (.getfield 31, 3) := by decide +kernel
theorem dX4_isSentAnew_4 : decode cX4_isSentAnew 4 = .ok (.iload_n 1, 1) := by decide +kernel
theorem dX4_isSentAnew_5 : decode cX4_isSentAnew 5 = .ok (.iaload, 1) := by decide +kernel
theorem dX4_isSentAnew_6 : decode cX4_isSentAnew 6 = .ok (.ifCond .ne 27, 3) := by decide +kernel
theorem dX4_isSentAnew_9 : decode cX4_isSentAnew 9 = .ok (.aload_n 0, 1) := by decide +kernel
theorem dX4_isSentAnew_10 : decode cX4_isSentAnew 10 = .ok (.getfield 37, 3) := by decide +kernel
theorem dX4_isSentAnew_13 : decode cX4_isSentAnew 13 = .ok (.iload_n 1, 1) := by decide +kernel
theorem dX4_isSentAnew_14 : decode cX4_isSentAnew 14 = .ok (.iaload, 1) := by decide +kernel
theorem dX4_isSentAnew_15 : decode cX4_isSentAnew 15 = .ok (.iconst 2, 1) := by decide +kernel
theorem dX4_isSentAnew_16 : decode cX4_isSentAnew 16 = .ok (.if_icmp .eq 17, 3) := by decide +kernel
theorem dX4_isSentAnew_19 : decode cX4_isSentAnew 19 = .ok (.aload_n 0, 1) := by decide +kernel
theorem dX4_isSentAnew_20 : decode cX4_isSentAnew 20 = .ok (.getfield 37, 3) := by decide +kernel
theorem dX4_isSentAnew_23 : decode cX4_isSentAnew 23 = .ok (.iload_n 1, 1) := by decide +kernel
theorem dX4_isSentAnew_24 : decode cX4_isSentAnew 24 = .ok (.iaload, 1) := by decide +kernel
theorem dX4_isSentAnew_25 : decode cX4_isSentAnew 25 = .ok (.iconst 3, 1) := by decide +kernel
theorem dX4_isSentAnew_26 : decode cX4_isSentAnew 26 = .ok (.if_icmp .eq 7, 3) := by decide +kernel
theorem dX4_isSentAnew_29 : decode cX4_isSentAnew 29 = .ok (.iconst 1, 1) := by decide +kernel
theorem dX4_isSentAnew_30 : decode cX4_isSentAnew 30 = .ok (.goto 4, 3) := by decide +kernel
theorem dX4_isSentAnew_33 : decode cX4_isSentAnew 33 = .ok (.iconst 0, 1) := by decide +kernel
theorem dX4_isSentAnew_34 : decode cX4_isSentAnew 34 = .ok (.ireturn, 1) := by decide +kernel
theorem dX4_join_0 : decode cX4_join 0 = .ok (.aload_n 0, 1) := by decide +kernel
theorem dX4_join_1 : decode cX4_join 1 = .ok (.aload_n 0, 1) := by decide +kernel
theorem dX4_join_2 : decode cX4_join 2 = .ok (.getfield 62, 3) := by decide +kernel
theorem dX4_join_5 : decode cX4_join 5 = .ok (.ifCond .ne 7, 3) := by decide +kernel
theorem dX4_join_8 : decode cX4_join 8 = .ok (.iconst 1, 1) := by decide +kernel
theorem dX4_join_9 : decode cX4_join 9 = .ok (.goto 4, 3) := by decide +kernel
theorem dX4_join_12 : decode cX4_join 12 = .ok (.iconst 0, 1) := by decide +kernel
theorem dX4_join_13 : decode cX4_join 13 = .ok (.invokevirtual 101, 3) := by decide +kernel
theorem dX4_join_16 : decode cX4_join 16 = .ok (.ifCond .ne 5, 3) := by decide +kernel
theorem dX4_join_19 : decode cX4_join 19 = .ok (.iconst 0, 1) := by decide +kernel
theorem dX4_join_20 : decode cX4_join 20 = .ok (.ireturn, 1) := by decide +kernel
theorem dX4_join_21 : decode cX4_join 21 = .ok (.aload_n 0, 1) := by decide +kernel
theorem dX4_join_22 : decode cX4_join 22 = .ok (.iconst 1, 1) := by decide +kernel
theorem dX4_join_23 : decode cX4_join 23 = .ok (.putfield 62, 3) := by decide +kernel
theorem dX4_join_26 : decode cX4_join 26 = .ok (.iconst 0, 1) := by decide +kernel
theorem dX4_join_27 : decode cX4_join 27 = .ok (.istore_n 1, 1) := by decide +kernel
theorem dX4_join_28 : decode cX4_join 28 = .ok (.iload_n 1, 1) := by decide +kernel
theorem dX4_join_29 : decode cX4_join 29 = .ok (.iconst 4, 1) := by decide +kernel
theorem dX4_join_30 : decode cX4_join 30 = .ok (.if_icmp .ge 33, 3) := by decide +kernel
theorem dX4_join_33 : decode cX4_join 33 = .ok (.aload_n 0, 1) := by decide +kernel
theorem dX4_join_34 : decode cX4_join 34 = .ok (.getfield 19, 3) := by decide +kernel
theorem dX4_join_37 : decode cX4_join 37 = .ok (.iload_n 1, 1) := by decide +kernel
theorem dX4_join_38 : decode cX4_join 38 = .ok (.aload_n 0, 1) := by decide +kernel
theorem dX4_join_39 : decode cX4_join 39 = .ok (.getfield 13, 3) := by decide +kernel
theorem dX4_join_42 : decode cX4_join 42 = .ok (.iload_n 1, 1) := by decide +kernel
theorem dX4_join_43 : decode cX4_join 43 = .ok (.iaload, 1) := by decide +kernel
theorem dX4_join_44 : decode cX4_join 44 = .ok (.iastore, 1) := by decide +kernel
theorem dX4_join_45 : decode cX4_join 45 = .ok (.aload_n 0, 1) := by decide +kernel
theorem dX4_join_46 : decode cX4_join 46 = .ok (.getfield 16, 3) := by decide +kernel
theorem dX4_join_49 : decode cX4_join 49 = .ok (.iload_n 1, 1) := by decide +kernel
theorem dX4_join_50 : decode cX4_join 50 = .ok (.aload_n 0, 1) := by decide +kernel
theorem dX4_join_51 : decode cX4_join 51 = .ok (.getfield 13, 3) := by decide +kernel
theorem dX4_join_54 : decode cX4_join 54 = .ok (.iload_n 1, 1) := by decide +kernel
theorem dX4_join_55 : decode cX4_join 55 = .ok (.iaload, 1) := by decide +kernel
theorem dX4_join_56 : decode cX4_join 56 = .ok (.iastore, 1) := by decide +kernel
theorem dX4_join_57 : decode cX4_join 57 = .ok (.iinc 1 1, 3) := by decide +kernel
theorem dX4_join_60 : decode cX4_join 60 = .ok (.goto (-32), 3) := by decide +kernel
theorem dX4_join_63 : decode cX4_join 63 = .ok (.iconst 0, 1) := by decide +kernel
theorem dX4_join_64 : decode cX4_join 64 = .ok (.istore_n 1, 1) := by decide +kernel
theorem dX4_join_65 : decode cX4_join 65 = .ok (.iconst 0, 1) := by decide +kernel
theorem dX4_join_66 : decode cX4_join 66 = .ok (.istore_n 2, 1) := by decide +kernel
theorem dX4_join_67 : decode cX4_join 67 = .ok (.iload_n 2, 1) := by decide +kernel
theorem dX4_join_68 : decode cX4_join 68 = .ok (.aload_n 0, 1) := by decide +kernel
theorem dX4_join_69 : decode cX4_join 69 = .ok (.getfield 77, 3) := by decide +kernel
theorem dX4_join_72 : decode cX4_join 72 = .ok (.if_icmp .ge 110, 3) := by decide +kernel
theorem dX4_join_75 : decode cX4_join 75 = .ok (.aload_n 0, 1) := by decide +kernel
theorem dX4_join_76 : decode cX4_join 76 = .ok (.getfield 37, 3) := by decide +kernel
theorem dX4_join_79 : decode cX4_join 79 = .ok (.iload_n 2, 1) := by decide +kernel
theorem dX4_join_80 : decode cX4_join 80 = .ok (.iaload, 1) := by decide +kernel
theorem dX4_join_81 : decode cX4_join 81 = .ok (.iconst 1, 1) := by decide +kernel
theorem dX4_join_82 : decode cX4_join 82 = .ok (.if_icmp .ne 23, 3) := by decide +kernel
theorem dX4_join_85 : decode cX4_join 85 = .ok (.aload_n 0, 1) := by decide +kernel
theorem dX4_join_86 : decode cX4_join 86 = .ok (.getfield 37, 3) := by decide +kernel
theorem dX4_join_89 : decode cX4_join 89 = .ok (.iload_n 2, 1) := by decide +kernel
theorem dX4_join_90 : decode cX4_join 90 = .ok (.aload_n 0, 1) := by decide +kernel
theorem dX4_join_91 : decode cX4_join 91 = .ok (.getfield 43, 3) := by decide +kernel
theorem dX4_join_94 : decode cX4_join 94 = .ok (.iload_n 2, 1) := by decide +kernel
theorem dX4_join_95 : decode cX4_join 95 = .ok (.baload, 1) := by decide +kernel
theorem dX4_join_96 : decode cX4_join 96 = .ok (.ifCond .eq 7, 3) := by decide +kernel
theorem dX4_join_99 : decode cX4_join 99 = .ok (.iconst 4, 1) := by decide +kernel
theorem dX4_join_100 : decode cX4_join 100 = .ok (.goto 4, 3) := by decide +kernel
theorem dX4_join_103 : decode cX4_join 103 = .ok (.iconst 0, 1) := by decide +kernel
theorem dX4_join_104 : decode cX4_join 104 = .ok (.iastore, 1) := by decide +kernel
theorem dX4_join_105 : decode cX4_join 105 = .ok (.aload_n 0, 1) := by decide +kernel
theorem dX4_join_106 : decode cX4_join 106 = .ok (.iload_n 2, 1) := by decide +kernel
theorem dX4_join_107 : decode cX4_join 107 = .ok (.invokevirtual 143, 3) := by decide +kernel
theorem dX4_join_110 : decode cX4_join 110 = .ok (.ifCond .eq 12, 3) := by decide +kernel
theorem dX4_join_113 : decode cX4_join 113 = .ok (.aload_n 0, 1) := by decide +kernel
theorem dX4_join_114 : decode cX4_join 114 = .ok (.iload_n 2, 1) := by decide +kernel
theorem dX4_join_115 : decode cX4_join 115 = .ok (.iconst 1, 1) := by decide +kernel
theorem dX4_join_116 : decode cX4_join 116 = .ok (.invokevirtual 111, 3) := by decide +kernel
theorem dX4_join_119 : decode cX4_join 119 = .ok (.iinc 1 1, 3) := by decide +kernel
theorem dX4_join_122 : decode cX4_join 122 = .ok (.aload_n 0, 1) := by decide +kernel
theorem dX4_join_123 : decode cX4_join 123 = .ok (.getfield 37, 3) := by decide +kernel
theorem dX4_join_126 : decode cX4_join 126 = .ok (.iload_n 2, 1) := by decide +kernel
theorem dX4_join_127 : decode cX4_join 127 = .ok (.iaload, 1) := by decide +kernel
theorem dX4_join_128 : decode cX4_join 128 = .ok (.iconst 3, 1) := by decide +kernel
theorem dX4_join_129 : decode cX4_join 129 = .ok (.if_icmp .ne 47, 3) := by decide +kernel
theorem dX4_join_132 : decode cX4_join 132 = .ok (.aload_n 0, 1) := by decide +kernel
theorem dX4_join_133 : decode cX4_join 133 = .ok (.getfield 34, 3) := by decide +kernel
theorem dX4_join_136 : decode cX4_join 136 = .ok (.iload_n 2, 1) := by decide +kernel
theorem dX4_join_137 : decode cX4_join 137 = .ok (.aload_n 0, 1) := by decide +kernel
theorem dX4_join_138 : decode cX4_join 138 = .ok (.getfield 31, 3) := by decide +kernel
theorem dX4_join_141 : decode cX4_join 141 = .ok (.iload_n 2, 1) := by decide +kernel
theorem dX4_join_142 : decode cX4_join 142 = .ok (.iaload, 1) := by decide +kernel
theorem dX4_join_143 : decode cX4_join 143 = .ok (.ifCond .ne 12, 3) := by decide +kernel
theorem dX4_join_146 : decode cX4_join 146 = .ok (.aload_n 0, 1) := by decide +kernel
theorem dX4_join_147 : decode cX4_join 147 = .ok (.getfield 47, 3) := by decide +kernel
theorem dX4_join_150 : decode cX4_join 150 = .ok (.iload_n 2, 1) := by decide +kernel
theorem dX4_join_151 : decode cX4_join 151 = .ok (.iaload, 1) := by decide +kernel
theorem dX4_join_152 : decode cX4_join 152 = .ok (.goto 9, 3) := by decide +kernel
theorem dX4_join_155 : decode cX4_join 155 = .ok (.aload_n 0, 1) := by decide +kernel
theorem dX4_join_156 : decode cX4_join 156 = .ok (.getfield 34, 3) := by decide +kernel
theorem dX4_join_159 : decode cX4_join 159 = .ok (.iload_n 2, 1) := by decide +kernel
theorem dX4_join_160 : decode cX4_join 160 = .ok (.iaload, 1) := by decide +kernel
theorem dX4_join_161 : decode cX4_join 161 = .ok (.iastore, 1) := by decide +kernel
theorem dX4_join_162 : decode cX4_join 162 = .ok (.aload_n 0, 1) := by decide +kernel
theorem dX4_join_163 : decode cX4_join 163 = .ok (.getfield 31, 3) := by decide +kernel
theorem dX4_join_166 : decode cX4_join 166 = .ok (.iload_n 2, 1) := by decide +kernel
theorem dX4_join_167 : decode cX4_join 167 = .ok (.iconst 1, 1) := by decide +kernel
theorem dX4_join_168 : decode cX4_join 168 = .ok (.iastore, 1) := by decide +kernel
theorem dX4_join_169 : decode cX4_join 169 = .ok (.aload_n 0, 1) := by decide +kernel
theorem dX4_join_170 : decode cX4_join 170 = .ok (.getfield 37, 3) := by decide +kernel
theorem dX4_join_173 : decode cX4_join 173 = .ok (.iload_n 2, 1) := by decide +kernel
theorem dX4_join_174 : decode cX4_join 174 = .ok (.iconst 4, 1) := by decide +kernel
theorem dX4_join_175 : decode cX4_join 175 = .ok (.iastore, 1) := by decide +kernel
theorem dX4_join_176 : decode cX4_join 176 = .ok (.iinc 2 1, 3) := by decide +kernel
theorem dX4_join_179 : decode cX4_join 179 = .ok (.goto (-112), 3) := by decide +kernel
theorem dX4_join_182 : decode cX4_join 182 = .ok (.iload_n 1, 1) := by decide +kernel
theorem dX4_join_183 : decode cX4_join 183 = .ok (.ireturn, 1) := by decide +kernel
theorem dX4_wouldResend_0 : decode cX4_wouldResend 0 = .ok (.iconst 0, 1) := by decide +kernel
theorem dX4_wouldResend_1 : decode cX4_wouldResend 1 = .ok (.istore_n 1, 1) := by decide +kernel
theorem dX4_wouldResend_2 : decode cX4_wouldResend 2 = .ok (.iconst 0, 1) := by decide +kernel
theorem dX4_wouldResend_3 : decode cX4_wouldResend 3 = .ok (.istore_n 2, 1) := by decide +kernel
theorem dX4_wouldResend_4 : decode cX4_wouldResend 4 = .ok (.iload_n 2, 1) := by decide +kernel
theorem dX4_wouldResend_5 : decode cX4_wouldResend 5 = .ok (.aload_n 0, 1) := by decide +kernel
theorem dX4_wouldResend_6 : decode cX4_wouldResend 6 = .ok (.getfield 77, 3) := by decide +kernel
theorem dX4_wouldResend_9 : decode cX4_wouldResend 9 = .ok (.if_icmp .ge 25, 3) := by decide +kernel
theorem dX4_wouldResend_12 : decode cX4_wouldResend 12 = .ok (.iload_n 1, 1) := by decide +kernel
theorem dX4_wouldResend_13 : decode cX4_wouldResend 13 = .ok (.aload_n 0, 1) := by decide +kernel
theorem dX4_wouldResend_14 : decode cX4_wouldResend 14 = .ok (.iload_n 2, 1) := by decide +kernel
theorem dX4_wouldResend_15 : decode cX4_wouldResend 15 = .ok (.invokevirtual 143, 3) := by decide +kernel
theorem dX4_wouldResend_18 : decode cX4_wouldResend 18 = .ok (.ifCond .eq 7, 3) := by decide +kernel
theorem dX4_wouldResend_21 : decode cX4_wouldResend 21 = .ok (.iconst 1, 1) := by decide +kernel
theorem dX4_wouldResend_22 : decode cX4_wouldResend 22 = .ok (.goto 4, 3) := by decide +kernel
theorem dX4_wouldResend_25 : decode cX4_wouldResend 25 = .ok (.iconst 0, 1) := by decide +kernel
theorem dX4_wouldResend_26 : decode cX4_wouldResend 26 = .ok (.iadd, 1) := by decide +kernel
theorem dX4_wouldResend_27 : decode cX4_wouldResend 27 = .ok (.istore_n 1, 1) := by decide +kernel
theorem dX4_wouldResend_28 : decode cX4_wouldResend 28 = .ok (.iinc 2 1, 3) := by decide +kernel
theorem dX4_wouldResend_31 : decode cX4_wouldResend 31 = .ok (.goto (-27), 3) := by decide +kernel
theorem dX4_wouldResend_34 : decode cX4_wouldResend 34 = .ok (.aload_n 0, 1) := by decide +kernel
theorem dX4_wouldResend_35 : decode cX4_wouldResend 35 = .ok (.iload_n 1, 1) := by decide +kernel
theorem dX4_wouldResend_36 : decode cX4_wouldResend 36 = .ok (.invokevirtual 131, 3) := by decide +kernel
theorem dX4_wouldResend_39 : decode cX4_wouldResend 39 = .ok (.ireturn, 1) := by decide +kernel
theorem dX4_isUp_0 : decode cX4_isUp 0 = .ok (.aload_n 0, 1) := by decide +kernel
theorem dX4_isUp_1 : decode cX4_isUp 1 = .ok (.iconst 0, 1) := by decide +kernel
theorem dX4_isUp_2 : decode cX4_isUp 2 = .ok (.putfield 69, 3) := by decide +kernel
theorem dX4_isUp_5 : decode cX4_isUp 5 = .ok (.aload_n 0, 1) := by decide +kernel
theorem dX4_isUp_6 : decode cX4_isUp 6 = .ok (.getfield 62, 3) := by decide +kernel
theorem dX4_isUp_9 : decode cX4_isUp 9 = .ok (.ireturn, 1) := by decide +kernel
theorem dX4_begin_0 : decode cX4_begin 0 = .ok (.aload_n 0, 1) := by decide +kernel
theorem dX4_begin_1 : decode cX4_begin 1 = .ok (.aload_n 0, 1) := by decide +kernel
theorem dX4_begin_2 : decode cX4_begin 2 = .ok (.getfield 62, 3) := by decide +kernel
theorem dX4_begin_5 : decode cX4_begin 5 = .ok (.ifCond .eq 14, 3) := by decide +kernel
theorem dX4_begin_8 : decode cX4_begin 8 = .ok (.aload_n 0, 1) := by decide +kernel
theorem dX4_begin_9 : decode cX4_begin 9 = .ok (.getfield 137, 3) := by decide +kernel
theorem dX4_begin_12 : decode cX4_begin 12 = .ok (.ifCond .ne 7, 3) := by decide +kernel
theorem dX4_begin_15 : decode cX4_begin 15 = .ok (.iconst 1, 1) := by decide +kernel
theorem dX4_begin_16 : decode cX4_begin 16 = .ok (.goto 4, 3) := by decide +kernel
theorem dX4_begin_19 : decode cX4_begin 19 = .ok (.iconst 0, 1) := by decide +kernel
theorem dX4_begin_20 : decode cX4_begin 20 = .ok (.invokevirtual 101, 3) := by decide +kernel
theorem dX4_begin_23 : decode cX4_begin 23 = .ok (.ifCond .ne 5, 3) := by decide +kernel
theorem dX4_begin_26 : decode cX4_begin 26 = .ok (.iconst 0, 1) := by decide +kernel
theorem dX4_begin_27 : decode cX4_begin 27 = .ok (.ireturn, 1) := by decide +kernel
theorem dX4_begin_28 : decode cX4_begin 28 = .ok (.aload_n 0, 1) := by decide +kernel
theorem dX4_begin_29 : decode cX4_begin 29 = .ok (.iconst 1, 1) := by decide +kernel
theorem dX4_begin_30 : decode cX4_begin 30 = .ok (.putfield 137, 3) := by decide +kernel
theorem dX4_begin_33 : decode cX4_begin 33 = .ok (.aload_n 0, 1) := by decide +kernel
theorem dX4_begin_34 : decode cX4_begin 34 = .ok (.dup, 1) := by decide +kernel
theorem dX4_begin_35 : decode cX4_begin 35 = .ok (.getfield 146, 3) := by decide +kernel
theorem dX4_begin_38 : decode cX4_begin 38 = .ok (.iconst 1, 1) := by decide +kernel
theorem dX4_begin_39 : decode cX4_begin 39 = .ok (.iadd, 1) := by decide +kernel
theorem dX4_begin_40 : decode cX4_begin 40 = .ok (.putfield 146, 3) := by decide +kernel
theorem dX4_begin_43 : decode cX4_begin 43 = .ok (.aload_n 0, 1) := by decide +kernel
theorem dX4_begin_44 : decode cX4_begin 44 = .ok (.getfield 146, 3) := by decide +kernel
theorem dX4_begin_47 : decode cX4_begin 47 = .ok (.ireturn, 1) := by decide +kernel
theorem dX4_tell_0 : decode cX4_tell 0 = .ok (.aload_n 0, 1) := by decide +kernel
theorem dX4_tell_1 : decode cX4_tell 1 = .ok (.iload_n 1, 1) := by decide +kernel
theorem dX4_tell_2 : decode cX4_tell 2 = .ok (.invokevirtual 125, 3) := by decide +kernel
theorem dX4_tell_5 : decode cX4_tell 5 = .ok (.istore_n 3, 1) := by decide +kernel
theorem dX4_tell_6 : decode cX4_tell 6 = .ok (.aload_n 0, 1) := by decide +kernel
theorem dX4_tell_7 : decode cX4_tell 7 = .ok (.iload_n 3, 1) := by decide +kernel
theorem dX4_tell_8 : decode cX4_tell 8 = .ok (.iload_n 2, 1) := by decide +kernel
theorem dX4_tell_9 : decode cX4_tell 9 = .ok (.iconst 0, 1) := by decide +kernel
theorem dX4_tell_10 : decode cX4_tell 10 = .ok (.iconst 2, 1) := by decide +kernel
theorem dX4_tell_11 : decode cX4_tell 11 = .ok (.invokestatic 73, 3) := by decide +kernel
theorem dX4_tell_14 : decode cX4_tell 14 = .ok (.iload_n 3, 1) := by decide +kernel
theorem dX4_tell_15 : decode cX4_tell 15 = .ok (.ifCond .eq 34, 3) := by decide +kernel
theorem dX4_tell_18 : decode cX4_tell 18 = .ok (.aload_n 0, 1) := by decide +kernel
theorem dX4_tell_19 : decode cX4_tell 19 = .ok (.getfield 137, 3) := by decide +kernel
theorem dX4_tell_22 : decode cX4_tell 22 = .ok (.ifCond .eq 27, 3) := by decide +kernel
theorem dX4_tell_25 : decode cX4_tell 25 = .ok (.aload_n 0, 1) := by decide +kernel
theorem dX4_tell_26 : decode cX4_tell 26 = .ok (.getfield 37, 3) := by decide +kernel
theorem dX4_tell_29 : decode cX4_tell 29 = .ok (.iload_n 1, 1) := by decide +kernel
theorem dX4_tell_30 : decode cX4_tell 30 = .ok (.iaload, 1) := by decide +kernel
theorem dX4_tell_31 : decode cX4_tell 31 = .ok (.iconst 2, 1) := by decide +kernel
theorem dX4_tell_32 : decode cX4_tell 32 = .ok (.if_icmp .ne 17, 3) := by decide +kernel
theorem dX4_tell_35 : decode cX4_tell 35 = .ok (.aload_n 0, 1) := by decide +kernel
theorem dX4_tell_36 : decode cX4_tell 36 = .ok (.getfield 53, 3) := by decide +kernel
theorem dX4_tell_39 : decode cX4_tell 39 = .ok (.iload_n 1, 1) := by decide +kernel
theorem dX4_tell_40 : decode cX4_tell 40 = .ok (.iaload, 1) := by decide +kernel
theorem dX4_tell_41 : decode cX4_tell 41 = .ok (.iconst (-1), 1) := by decide +kernel
theorem dX4_tell_42 : decode cX4_tell 42 = .ok (.if_icmp .ne 7, 3) := by decide +kernel
theorem dX4_tell_45 : decode cX4_tell 45 = .ok (.iconst 1, 1) := by decide +kernel
theorem dX4_tell_46 : decode cX4_tell 46 = .ok (.goto 4, 3) := by decide +kernel
theorem dX4_tell_49 : decode cX4_tell 49 = .ok (.iconst 0, 1) := by decide +kernel
theorem dX4_tell_50 : decode cX4_tell 50 = .ok (.invokevirtual 94, 3) := by decide +kernel
theorem dX4_tell_53 : decode cX4_tell 53 = .ok (.ifCond .ne 5, 3) := by decide +kernel
theorem dX4_tell_56 : decode cX4_tell 56 = .ok (.iconst 0, 1) := by decide +kernel
theorem dX4_tell_57 : decode cX4_tell 57 = .ok (.ireturn, 1) := by decide +kernel
theorem dX4_tell_58 : decode cX4_tell 58 = .ok (.aload_n 0, 1) := by decide +kernel
theorem dX4_tell_59 : decode cX4_tell 59 = .ok (.getfield 53, 3) := by decide +kernel
theorem dX4_tell_62 : decode cX4_tell 62 = .ok (.iload_n 1, 1) := by decide +kernel
theorem dX4_tell_63 : decode cX4_tell 63 = .ok (.iload_n 2, 1) := by decide +kernel
theorem dX4_tell_64 : decode cX4_tell 64 = .ok (.iastore, 1) := by decide +kernel
theorem dX4_tell_65 : decode cX4_tell 65 = .ok (.aload_n 0, 1) := by decide +kernel
theorem dX4_tell_66 : decode cX4_tell 66 = .ok (.getfield 66, 3) := by decide +kernel
theorem dX4_tell_69 : decode cX4_tell 69 = .ok (.aload_n 0, 1) := by decide +kernel
theorem dX4_tell_70 : decode cX4_tell 70 = .ok (.getfield 134, 3) := by decide +kernel
theorem dX4_tell_73 : decode cX4_tell 73 = .ok (.iload_n 1, 1) := by decide +kernel
theorem dX4_tell_74 : decode cX4_tell 74 = .ok (.iastore, 1) := by decide +kernel
theorem dX4_tell_75 : decode cX4_tell 75 = .ok (.aload_n 0, 1) := by decide +kernel
theorem dX4_tell_76 : decode cX4_tell 76 = .ok (.dup, 1) := by decide +kernel
theorem dX4_tell_77 : decode cX4_tell 77 = .ok (.getfield 134, 3) := by decide +kernel
theorem dX4_tell_80 : decode cX4_tell 80 = .ok (.iconst 1, 1) := by decide +kernel
theorem dX4_tell_81 : decode cX4_tell 81 = .ok (.iadd, 1) := by decide +kernel
theorem dX4_tell_82 : decode cX4_tell 82 = .ok (.putfield 134, 3) := by decide +kernel
theorem dX4_tell_85 : decode cX4_tell 85 = .ok (.aload_n 0, 1) := by decide +kernel
theorem dX4_tell_86 : decode cX4_tell 86 = .ok (.getfield 134, 3) := by decide +kernel
theorem dX4_tell_89 : decode cX4_tell 89 = .ok (.ireturn, 1) := by decide +kernel
theorem dX4_end_0 : decode cX4_end 0 = .ok (.aload_n 0, 1) := by decide +kernel
theorem dX4_end_1 : decode cX4_end 1 = .ok (.aload_n 0, 1) := by decide +kernel
theorem dX4_end_2 : decode cX4_end 2 = .ok (.getfield 137, 3) := by decide +kernel
theorem dX4_end_5 : decode cX4_end 5 = .ok (.invokevirtual 101, 3) := by decide +kernel
theorem dX4_end_8 : decode cX4_end 8 = .ok (.ifCond .ne 5, 3) := by decide +kernel
theorem dX4_end_11 : decode cX4_end 11 = .ok (.iconst 0, 1) := by decide +kernel
theorem dX4_end_12 : decode cX4_end 12 = .ok (.ireturn, 1) := by decide +kernel
theorem dX4_end_13 : decode cX4_end 13 = .ok (.iload_n 1, 1) := by decide +kernel
theorem dX4_end_14 : decode cX4_end 14 = .ok (.ifCond .eq 10, 3) := by decide +kernel
theorem dX4_end_17 : decode cX4_end 17 = .ok (.aload_n 0, 1) := by decide +kernel
theorem dX4_end_18 : decode cX4_end 18 = .ok (.getfield 134, 3) := by decide +kernel
theorem dX4_end_21 : decode cX4_end 21 = .ok (.goto 4, 3) := by decide +kernel
theorem dX4_end_24 : decode cX4_end 24 = .ok (.iconst 0, 1) := by decide +kernel
theorem dX4_end_25 : decode cX4_end 25 = .ok (.istore_n 2, 1) := by decide +kernel
theorem dX4_end_26 : decode cX4_end 26 = .ok (.iconst 0, 1) := by decide +kernel
theorem dX4_end_27 : decode cX4_end 27 = .ok (.istore_n 3, 1) := by decide +kernel
theorem dX4_end_28 : decode cX4_end 28 = .ok (.iload_n 3, 1) := by decide +kernel
theorem dX4_end_29 : decode cX4_end 29 = .ok (.iload_n 2, 1) := by decide +kernel
theorem dX4_end_30 : decode cX4_end 30 = .ok (.if_icmp .ge 30, 3) := by decide +kernel
theorem dX4_end_33 : decode cX4_end 33 = .ok (.aload_n 0, 1) := by decide +kernel
theorem dX4_end_34 : decode cX4_end 34 = .ok (.aload_n 0, 1) := by decide +kernel
theorem dX4_end_35 : decode cX4_end 35 = .ok (.getfield 66, 3) := by decide +kernel
theorem dX4_end_38 : decode cX4_end 38 = .ok (.iload_n 3, 1) := by decide +kernel
theorem dX4_end_39 : decode cX4_end 39 = .ok (.iaload, 1) := by decide +kernel
theorem dX4_end_40 : decode cX4_end 40 = .ok (.aload_n 0, 1) := by decide +kernel
theorem dX4_end_41 : decode cX4_end 41 = .ok (.getfield 53, 3) := by decide +kernel
theorem dX4_end_44 : decode cX4_end 44 = .ok (.aload_n 0, 1) := by decide +kernel
theorem dX4_end_45 : decode cX4_end 45 = .ok (.getfield 66, 3) := by decide +kernel
theorem dX4_end_48 : decode cX4_end 48 = .ok (.iload_n 3, 1) := by decide +kernel
theorem dX4_end_49 : decode cX4_end 49 = .ok (.iaload, 1) := by decide +kernel
theorem dX4_end_50 : decode cX4_end 50 = .ok (.iaload, 1) := by decide +kernel
theorem dX4_end_51 : decode cX4_end 51 = .ok (.invokevirtual 128, 3) := by decide +kernel
theorem dX4_end_54 : decode cX4_end 54 = .ok (.iinc 3 1, 3) := by decide +kernel
theorem dX4_end_57 : decode cX4_end 57 = .ok (.goto (-29), 3) := by decide +kernel
theorem dX4_end_60 : decode cX4_end 60 = .ok (.aload_n 0, 1) := by decide +kernel
theorem dX4_end_61 : decode cX4_end 61 = .ok (.invokevirtual 140, 3) := by decide +kernel
theorem dX4_end_64 : decode cX4_end 64 = .ok (.iload_n 2, 1) := by decide +kernel
theorem dX4_end_65 : decode cX4_end 65 = .ok (.ireturn, 1) := by decide +kernel
theorem dJ9_floorMod_7cf53_0 : decode cJ9_floorMod_7cf53 0 = .ok (.iload_n 0, 1) := by decide +kernel
theorem dJ9_floorMod_7cf53_1 : decode cJ9_floorMod_7cf53 1 = .ok (.iload_n 1, 1) := by decide +kernel
theorem dJ9_floorMod_7cf53_2 : decode cJ9_floorMod_7cf53 2 = .ok (.irem, 1) := by decide +kernel
theorem dJ9_floorMod_7cf53_3 : decode cJ9_floorMod_7cf53 3 = .ok (.istore_n 2, 1) := by decide +kernel
theorem dJ9_floorMod_7cf53_4 : decode cJ9_floorMod_7cf53 4 = .ok (.iload_n 0, 1) := by decide +kernel
theorem dJ9_floorMod_7cf53_5 : decode cJ9_floorMod_7cf53 5 = .ok (.iload_n 1, 1) := by decide +kernel
theorem dJ9_floorMod_7cf53_6 : decode cJ9_floorMod_7cf53 6 = .ok (.ixor, 1) := by decide +kernel
theorem dJ9_floorMod_7cf53_7 : decode cJ9_floorMod_7cf53 7 = .ok (.ifCond .ge 11, 3) := by decide +kernel
theorem dJ9_floorMod_7cf53_10 : decode cJ9_floorMod_7cf53 10 = .ok (.iload_n 2, 1) := by decide +kernel
theorem dJ9_floorMod_7cf53_11 : decode cJ9_floorMod_7cf53 11 = .ok (.ifCond .eq 7, 3) := by decide +kernel
theorem dJ9_floorMod_7cf53_14 : decode cJ9_floorMod_7cf53 14 = .ok (.iload_n 2, 1) := by decide +kernel
theorem dJ9_floorMod_7cf53_15 : decode cJ9_floorMod_7cf53 15 = .ok (.iload_n 1, 1) := by decide +kernel
theorem dJ9_floorMod_7cf53_16 : decode cJ9_floorMod_7cf53 16 = .ok (.iadd, 1) := by decide +kernel
theorem dJ9_floorMod_7cf53_17 : decode cJ9_floorMod_7cf53 17 = .ok (.ireturn, 1) := by decide +kernel
theorem dJ9_floorMod_7cf53_18 : decode cJ9_floorMod_7cf53 18 = .ok (.iload_n 2, 1) := by decide +kernel
theorem dJ9_floorMod_7cf53_19 : decode cJ9_floorMod_7cf53 19 = .ok (.ireturn, 1) := by decide +kernel
theorem dJ9_max_7cf53_0 : decode cJ9_max_7cf53 0 = .ok (.iload_n 0, 1) := by decide +kernel
theorem dJ9_max_7cf53_1 : decode cJ9_max_7cf53 1 = .ok (.iload_n 1, 1) := by decide +kernel
theorem dJ9_max_7cf53_2 : decode cJ9_max_7cf53 2 = .ok (.if_icmp .lt 7, 3) := by decide +kernel
theorem dJ9_max_7cf53_5 : decode cJ9_max_7cf53 5 = .ok (.iload_n 0, 1) := by decide +kernel
theorem dJ9_max_7cf53_6 : decode cJ9_max_7cf53 6 = .ok (.goto 4, 3) := by decide +kernel
theorem dJ9_max_7cf53_9 : decode cJ9_max_7cf53 9 = .ok (.iload_n 1, 1) := by decide +kernel
theorem dJ9_max_7cf53_10 : decode cJ9_max_7cf53 10 = .ok (.ireturn, 1) := by decide +kernel
theorem dJ9_min_7cf53_0 : decode cJ9_min_7cf53 0 = .ok (.iload_n 0, 1) := by decide +kernel
theorem dJ9_min_7cf53_1 : decode cJ9_min_7cf53 1 = .ok (.iload_n 1, 1) := by decide +kernel
theorem dJ9_min_7cf53_2 : decode cJ9_min_7cf53 2 = .ok (.if_icmp .gt 7, 3) := by decide +kernel
theorem dJ9_min_7cf53_5 : decode cJ9_min_7cf53 5 = .ok (.iload_n 0, 1) := by decide +kernel
theorem dJ9_min_7cf53_6 : decode cJ9_min_7cf53 6 = .ok (.goto 4, 3) := by decide +kernel
theorem dJ9_min_7cf53_9 : decode cJ9_min_7cf53 9 = .ok (.iload_n 1, 1) := by decide +kernel
theorem dJ9_min_7cf53_10 : decode cJ9_min_7cf53 10 = .ok (.ireturn, 1) := by decide +kernel
theorem dJxa1e45_init_da8c8_0 : decode cJxa1e45_init_da8c8 0 = .ok (.aload_n 0, 1) := by decide +kernel
theorem dJxa1e45_init_da8c8_1 : decode cJxa1e45_init_da8c8 1 = .ok (.invokespecial 1, 3) := by decide +kernel
theorem dJxa1e45_init_da8c8_4 : decode cJxa1e45_init_da8c8 4 = .ok (.return_, 1) := by decide +kernel
theorem dJxc12de_init_da8c8_0 : decode cJxc12de_init_da8c8 0 = .ok (.aload_n 0, 1) := by decide +kernel
theorem dJxc12de_init_da8c8_1 : decode cJxc12de_init_da8c8 1 = .ok (.invokespecial 1, 3) := by decide +kernel
theorem dJxc12de_init_da8c8_4 : decode cJxc12de_init_da8c8 4 = .ok (.aload_n 0, 1) := by decide +kernel
theorem dJxc12de_init_da8c8_5 : decode cJxc12de_init_da8c8 5 = .ok (.iconst 0, 1) := by decide +kernel
theorem dJxc12de_init_da8c8_6 : decode cJxc12de_init_da8c8 6 = .ok (.putfield 7, 3) := by decide +kernel
theorem dJxc12de_init_da8c8_9 : decode cJxc12de_init_da8c8 9 = .ok (.return_, 1) := by decide +kernel
theorem dJx4a65c_init_da8c8_0 : decode cJx4a65c_init_da8c8 0 = .ok (.aload_n 0, 1) := by decide +kernel
theorem dJx4a65c_init_da8c8_1 : decode cJx4a65c_init_da8c8 1 = .ok (.invokespecial 1, 3) := by decide +kernel
theorem dJx4a65c_init_da8c8_4 : decode cJx4a65c_init_da8c8 4 = .ok (.aload_n 0, 1) := by decide +kernel
theorem dJx4a65c_init_da8c8_5 : decode cJx4a65c_init_da8c8 5 = .ok (.getstatic 39, 3) := by decide +kernel
theorem dJx4a65c_init_da8c8_8 : decode cJx4a65c_init_da8c8 8 = .ok (.putfield 9, 3) := by decide +kernel
theorem dJx4a65c_init_da8c8_11 : decode cJx4a65c_init_da8c8 11 = .ok (.return_, 1) := by decide +kernel
theorem dJx4a65c_grow_92f84_0 : decode cJx4a65c_grow_92f84 0 = .ok (.aload_n 0, 1) := by decide +kernel
theorem dJx4a65c_grow_92f84_1 : decode cJx4a65c_grow_92f84 1 = .ok (.getfield 9, 3) := by decide +kernel
theorem dJx4a65c_grow_92f84_4 : decode cJx4a65c_grow_92f84 4 = .ok (.arraylength, 1) := by decide +kernel
theorem dJx4a65c_grow_92f84_5 : decode cJx4a65c_grow_92f84 5 = .ok (.istore_n 2, 1) := by decide +kernel
theorem dJx4a65c_grow_92f84_6 : decode cJx4a65c_grow_92f84 6 = .ok (.iload_n 2, 1) := by decide +kernel
theorem dJx4a65c_grow_92f84_7 : decode cJx4a65c_grow_92f84 7 = .ok (.ifCond .gt 13, 3) := by decide +kernel
theorem dJx4a65c_grow_92f84_10 : decode cJx4a65c_grow_92f84 10 = .ok (.aload_n 0, 1) := by decide +kernel
theorem dJx4a65c_grow_92f84_11 : decode cJx4a65c_grow_92f84 11 = .ok (.getfield 9, 3) := by decide +kernel
theorem dJx4a65c_grow_92f84_14 : decode cJx4a65c_grow_92f84 14 = .ok (.getstatic 39, 3) := by decide +kernel
theorem dJx4a65c_grow_92f84_17 : decode cJx4a65c_grow_92f84 17 = .ok (.if_acmp .eq 28, 3) := by decide +kernel
theorem dJx4a65c_grow_92f84_20 : decode cJx4a65c_grow_92f84 20 = .ok (.iload_n 2, 1) := by decide +kernel
theorem dJx4a65c_grow_92f84_21 : decode cJx4a65c_grow_92f84 21 = .ok (.iload_n 1, 1) := by decide +kernel
theorem dJx4a65c_grow_92f84_22 : decode cJx4a65c_grow_92f84 22 = .ok (.iload_n 2, 1) := by decide +kernel
theorem dJx4a65c_grow_92f84_23 : decode cJx4a65c_grow_92f84 23 = .ok (.isub, 1) := by decide +kernel
theorem dJx4a65c_grow_92f84_24 : decode cJx4a65c_grow_92f84 24 = .ok (.iload_n 2, 1) := by decide +kernel
theorem dJx4a65c_grow_92f84_25 : decode cJx4a65c_grow_92f84 25 = .ok (.iconst 1, 1) := by decide +kernel
theorem dJx4a65c_grow_92f84_26 : decode cJx4a65c_grow_92f84 26 = .ok (.ishr, 1) := by decide +kernel
theorem dJx4a65c_grow_92f84_27 : decode cJx4a65c_grow_92f84 27 = .ok (.invokestatic 73, 3) := by decide +kernel
theorem dJx4a65c_grow_92f84_30 : decode cJx4a65c_grow_92f84 30 = .ok (.istore_n 3, 1) := by decide +kernel
theorem dJx4a65c_grow_92f84_31 : decode cJx4a65c_grow_92f84 31 = .ok (.aload_n 0, 1) := by decide +kernel
theorem dJx4a65c_grow_92f84_32 : decode cJx4a65c_grow_92f84 32 = .ok (.aload_n 0, 1) := by decide +kernel
theorem dJx4a65c_grow_92f84_33 : decode cJx4a65c_grow_92f84 33 = .ok (.getfield 9, 3) := by decide +kernel
theorem dJx4a65c_grow_92f84_36 : decode cJx4a65c_grow_92f84 36 = .ok (.iload_n 3, 1) := by decide +kernel
theorem dJx4a65c_grow_92f84_37 : decode cJx4a65c_grow_92f84 37 = .ok (.invokestatic 66, 3) := by decide +kernel
theorem dJx4a65c_grow_92f84_40 : decode cJx4a65c_grow_92f84 40 = .ok (.dup_x1, 1) := by decide +kernel
theorem dJx4a65c_grow_92f84_41 : decode cJx4a65c_grow_92f84 41 = .ok (.putfield 9, 3) := by decide +kernel
theorem dJx4a65c_grow_92f84_44 : decode cJx4a65c_grow_92f84 44 = .ok (.areturn, 1) := by decide +kernel
theorem dJx4a65c_grow_92f84_45 : decode cJx4a65c_grow_92f84 45 = .ok (.aload_n 0, 1) := by decide +kernel
theorem dJx4a65c_grow_92f84_46 : decode cJx4a65c_grow_92f84 46 = .ok (.bipush 10, 2) := by decide +kernel
theorem dJx4a65c_grow_92f84_48 : decode cJx4a65c_grow_92f84 48 = .ok (.iload_n 1, 1) := by decide +kernel
theorem dJx4a65c_grow_92f84_49 : decode cJx4a65c_grow_92f84 49 = .ok (.invokestatic 79, 3) := by decide +kernel
theorem dJx4a65c_grow_92f84_52 : decode cJx4a65c_grow_92f84 52 = .ok (.anewarray 7, 3) := by decide +kernel
theorem dJx4a65c_grow_92f84_55 : decode cJx4a65c_grow_92f84 55 = .ok (.dup_x1, 1) := by decide +kernel
theorem dJx4a65c_grow_92f84_56 : decode cJx4a65c_grow_92f84 56 = .ok (.putfield 9, 3) := by decide +kernel
theorem dJx4a65c_grow_92f84_59 : decode cJx4a65c_grow_92f84 59 = .ok (.areturn, 1) := by decide +kernel
theorem dJx4a65c_grow_d5877_0 : decode cJx4a65c_grow_d5877 0 = .ok (.aload_n 0, 1) := by decide +kernel
theorem dJx4a65c_grow_d5877_1 : decode cJx4a65c_grow_d5877 1 = .ok (.aload_n 0, 1) := by decide +kernel
theorem dJx4a65c_grow_d5877_2 : decode cJx4a65c_grow_d5877 2 = .ok (.getfield 48, 3) := by decide +kernel
theorem dJx4a65c_grow_d5877_5 : decode cJx4a65c_grow_d5877 5 = .ok (.iconst 1, 1) := by decide +kernel
theorem dJx4a65c_grow_d5877_6 : decode cJx4a65c_grow_d5877 6 = .ok (.iadd, 1) := by decide +kernel
theorem dJx4a65c_grow_d5877_7 : decode cJx4a65c_grow_d5877 7 = .ok (.invokevirtual 69, 3) := by decide +kernel
theorem dJx4a65c_grow_d5877_10 : decode cJx4a65c_grow_d5877 10 = .ok (.areturn, 1) := by decide +kernel
theorem dJx4a65c_size_8abf5_0 : decode cJx4a65c_size_8abf5 0 = .ok (.aload_n 0, 1) := by decide +kernel
theorem dJx4a65c_size_8abf5_1 : decode cJx4a65c_size_8abf5 1 = .ok (.getfield 48, 3) := by decide +kernel
theorem dJx4a65c_size_8abf5_4 : decode cJx4a65c_size_8abf5 4 = .ok (.ireturn, 1) := by decide +kernel
theorem dJx4a65c_elementData_915e3_0 : decode cJx4a65c_elementData_915e3 0 = .ok (.aload_n 0, 1) := by decide +kernel
theorem dJx4a65c_elementData_915e3_1 : decode cJx4a65c_elementData_915e3 1 = .ok (.getfield 9, 3) := by decide +kernel
theorem dJx4a65c_elementData_915e3_4 : decode cJx4a65c_elementData_915e3 4 = .ok (.iload_n 1, 1) := by decide +kernel
theorem dJx4a65c_elementData_915e3_5 : decode cJx4a65c_elementData_915e3 5 = .ok (.aaload, 1) := by decide +kernel
theorem dJx4a65c_elementData_915e3_6 : decode cJx4a65c_elementData_915e3 6 = .ok (.areturn, 1) := by decide +kernel
theorem dJx4a65c_get_915e3_0 : decode cJx4a65c_get_915e3 0 = .ok (.iload_n 1, 1) := by decide +kernel
theorem dJx4a65c_get_915e3_1 : decode cJx4a65c_get_915e3 1 = .ok (.aload_n 0, 1) := by decide +kernel
theorem dJx4a65c_get_915e3_2 : decode cJx4a65c_get_915e3 2 = .ok (.getfield 48, 3) := by decide +kernel
theorem dJx4a65c_get_915e3_5 : decode cJx4a65c_get_915e3 5 = .ok (.invokestatic 118, 3) := by decide +kernel
theorem dJx4a65c_get_915e3_8 : decode cJx4a65c_get_915e3 8 = .ok (.pop, 1) := by decide +kernel
theorem dJx4a65c_get_915e3_9 : decode cJx4a65c_get_915e3 9 = .ok (.aload_n 0, 1) := by decide +kernel
theorem dJx4a65c_get_915e3_10 : decode cJx4a65c_get_915e3 10 = .ok (.iload_n 1, 1) := by decide +kernel
theorem dJx4a65c_get_915e3_11 : decode cJx4a65c_get_915e3 11 = .ok (.invokevirtual 123, 3) := by decide +kernel
theorem dJx4a65c_get_915e3_14 : decode cJx4a65c_get_915e3 14 = .ok (.areturn, 1) := by decide +kernel
theorem dJx4a65c_add_72be8_0 : decode cJx4a65c_add_72be8 0 = .ok (.iload_n 3, 1) := by decide +kernel
theorem dJx4a65c_add_72be8_1 : decode cJx4a65c_add_72be8 1 = .ok (.aload_n 2, 1) := by decide +kernel
theorem dJx4a65c_add_72be8_2 : decode cJx4a65c_add_72be8 2 = .ok (.arraylength, 1) := by decide +kernel
theorem dJx4a65c_add_72be8_3 : decode cJx4a65c_add_72be8 3 = .ok (.if_icmp .ne 8, 3) := by decide +kernel
theorem dJx4a65c_add_72be8_6 : decode cJx4a65c_add_72be8 6 = .ok (.aload_n 0, 1) := by decide +kernel
theorem dJx4a65c_add_72be8_7 : decode cJx4a65c_add_72be8 7 = .ok (.invokevirtual 129, 3) := by decide +kernel
theorem dJx4a65c_add_72be8_10 : decode cJx4a65c_add_72be8 10 = .ok (.astore_n 2, 1) := by decide +kernel
theorem dJx4a65c_add_72be8_11 : decode cJx4a65c_add_72be8 11 = .ok (.aload_n 2, 1) := by decide +kernel
theorem dJx4a65c_add_72be8_12 : decode cJx4a65c_add_72be8 12 = .ok (.iload_n 3, 1) := by decide +kernel
theorem dJx4a65c_add_72be8_13 : decode cJx4a65c_add_72be8 13 = .ok (.aload_n 1, 1) := by decide +kernel
theorem dJx4a65c_add_72be8_14 : decode cJx4a65c_add_72be8 14 = .ok (.aastore, 1) := by decide +kernel
theorem dJx4a65c_add_72be8_15 : decode cJx4a65c_add_72be8 15 = .ok (.aload_n 0, 1) := by decide +kernel
theorem dJx4a65c_add_72be8_16 : decode cJx4a65c_add_72be8 16 = .ok (.iload_n 3, 1) := by decide +kernel
theorem dJx4a65c_add_72be8_17 : decode cJx4a65c_add_72be8 17 = .ok (.iconst 1, 1) := by decide +kernel
theorem dJx4a65c_add_72be8_18 : decode cJx4a65c_add_72be8 18 = .ok (.iadd, 1) := by decide +kernel
theorem dJx4a65c_add_72be8_19 : decode cJx4a65c_add_72be8 19 = .ok (.putfield 48, 3) := by decide +kernel
theorem dJx4a65c_add_72be8_22 : decode cJx4a65c_add_72be8 22 = .ok (.return_, 1) := by decide +kernel
theorem dJx4a65c_add_9ea2d_0 : decode cJx4a65c_add_9ea2d 0 = .ok (.aload_n 0, 1) := by decide +kernel
theorem dJx4a65c_add_9ea2d_1 : decode cJx4a65c_add_9ea2d 1 = .ok (.dup, 1) := by decide +kernel
theorem dJx4a65c_add_9ea2d_2 : decode cJx4a65c_add_9ea2d 2 = .ok (.getfield 63, 3) := by decide +kernel
theorem dJx4a65c_add_9ea2d_5 : decode cJx4a65c_add_9ea2d 5 = .ok (.iconst 1, 1) := by decide +kernel
theorem dJx4a65c_add_9ea2d_6 : decode cJx4a65c_add_9ea2d 6 = .ok (.iadd, 1) := by decide +kernel
theorem dJx4a65c_add_9ea2d_7 : decode cJx4a65c_add_9ea2d 7 = .ok (.putfield 63, 3) := by decide +kernel
theorem dJx4a65c_add_9ea2d_10 : decode cJx4a65c_add_9ea2d 10 = .ok (.aload_n 0, 1) := by decide +kernel
theorem dJx4a65c_add_9ea2d_11 : decode cJx4a65c_add_9ea2d 11 = .ok (.aload_n 1, 1) := by decide +kernel
theorem dJx4a65c_add_9ea2d_12 : decode cJx4a65c_add_9ea2d 12 = .ok (.aload_n 0, 1) := by decide +kernel
theorem dJx4a65c_add_9ea2d_13 : decode cJx4a65c_add_9ea2d 13 = .ok (.getfield 9, 3) := by decide +kernel
theorem dJx4a65c_add_9ea2d_16 : decode cJx4a65c_add_9ea2d 16 = .ok (.aload_n 0, 1) := by decide +kernel
theorem dJx4a65c_add_9ea2d_17 : decode cJx4a65c_add_9ea2d 17 = .ok (.getfield 48, 3) := by decide +kernel
theorem dJx4a65c_add_9ea2d_20 : decode cJx4a65c_add_9ea2d 20 = .ok (.invokevirtual 131, 3) := by decide +kernel
theorem dJx4a65c_add_9ea2d_23 : decode cJx4a65c_add_9ea2d 23 = .ok (.iconst 1, 1) := by decide +kernel
theorem dJx4a65c_add_9ea2d_24 : decode cJx4a65c_add_9ea2d 24 = .ok (.ireturn, 1) := by decide +kernel
theorem dJx4a65c_clear_da8c8_0 : decode cJx4a65c_clear_da8c8 0 = .ok (.aload_n 0, 1) := by decide +kernel
theorem dJx4a65c_clear_da8c8_1 : decode cJx4a65c_clear_da8c8 1 = .ok (.dup, 1) := by decide +kernel
theorem dJx4a65c_clear_da8c8_2 : decode cJx4a65c_clear_da8c8 2 = .ok (.getfield 63, 3) := by decide +kernel
theorem dJx4a65c_clear_da8c8_5 : decode cJx4a65c_clear_da8c8 5 = .ok (.iconst 1, 1) := by decide +kernel
theorem dJx4a65c_clear_da8c8_6 : decode cJx4a65c_clear_da8c8 6 = .ok (.iadd, 1) := by decide +kernel
theorem dJx4a65c_clear_da8c8_7 : decode cJx4a65c_clear_da8c8 7 = .ok (.putfield 63, 3) := by decide +kernel
theorem dJx4a65c_clear_da8c8_10 : decode cJx4a65c_clear_da8c8 10 = .ok (.aload_n 0, 1) := by decide +kernel
theorem dJx4a65c_clear_da8c8_11 : decode cJx4a65c_clear_da8c8 11 = .ok (.getfield 9, 3) := by decide +kernel
theorem dJx4a65c_clear_da8c8_14 : decode cJx4a65c_clear_da8c8 14 = .ok (.astore_n 1, 1) := by decide +kernel
theorem dJx4a65c_clear_da8c8_15 : decode cJx4a65c_clear_da8c8 15 = .ok (.aload_n 0, 1) := by decide +kernel
theorem dJx4a65c_clear_da8c8_16 : decode cJx4a65c_clear_da8c8 16 = .ok (.getfield 48, 3) := by decide +kernel
theorem dJx4a65c_clear_da8c8_19 : decode cJx4a65c_clear_da8c8 19 = .ok (.istore_n 2, 1) := by decide +kernel
theorem dJx4a65c_clear_da8c8_20 : decode cJx4a65c_clear_da8c8 20 = .ok (.aload_n 0, 1) := by decide +kernel
theorem dJx4a65c_clear_da8c8_21 : decode cJx4a65c_clear_da8c8 21 = .ok (.iconst 0, 1) := by decide +kernel
theorem dJx4a65c_clear_da8c8_22 : decode cJx4a65c_clear_da8c8 22 = .ok (.dup_x1, 1) := by decide +kernel
theorem dJx4a65c_clear_da8c8_23 : decode cJx4a65c_clear_da8c8 23 = .ok (.putfield 48, 3) := by decide +kernel
theorem dJx4a65c_clear_da8c8_26 : decode cJx4a65c_clear_da8c8 26 = .ok (.istore_n 3, 1) := by decide +kernel
theorem dJx4a65c_clear_da8c8_27 : decode cJx4a65c_clear_da8c8 27 = .ok (.iload_n 3, 1) := by decide +kernel
theorem dJx4a65c_clear_da8c8_28 : decode cJx4a65c_clear_da8c8 28 = .ok (.iload_n 2, 1) := by decide +kernel
theorem dJx4a65c_clear_da8c8_29 : decode cJx4a65c_clear_da8c8 29 = .ok (.if_icmp .ge 13, 3) := by decide +kernel
theorem dJx4a65c_clear_da8c8_32 : decode cJx4a65c_clear_da8c8 32 = .ok (.aload_n 1, 1) := by decide +kernel
theorem dJx4a65c_clear_da8c8_33 : decode cJx4a65c_clear_da8c8 33 = .ok (.iload_n 3, 1) := by decide +kernel
theorem dJx4a65c_clear_da8c8_34 : decode cJx4a65c_clear_da8c8 34 = .ok (.aconst_null, 1) := by decide +kernel
theorem dJx4a65c_clear_da8c8_35 : decode cJx4a65c_clear_da8c8 35 = .ok (.aastore, 1) := by decide +kernel
theorem dJx4a65c_clear_da8c8_36 : decode cJx4a65c_clear_da8c8 36 = .ok (.iinc 3 1, 3) := by decide +kernel
theorem dJx4a65c_clear_da8c8_39 : decode cJx4a65c_clear_da8c8 39 = .ok (.goto (-12), 3) := by decide +kernel
theorem dJx4a65c_clear_da8c8_42 : decode cJx4a65c_clear_da8c8 42 = .ok (.return_, 1) := by decide +kernel
theorem dJ7_copyOf_1904c_0 : decode cJ7_copyOf_1904c 0 = .ok (.aload_n 0, 1) := by decide +kernel
theorem dJ7_copyOf_1904c_1 : decode cJ7_copyOf_1904c 1 = .ok (.iload_n 1, 1) := by decide +kernel
theorem dJ7_copyOf_1904c_2 : decode cJ7_copyOf_1904c 2 = .ok (.aload_n 0, 1) := by decide +kernel
theorem dJ7_copyOf_1904c_3 : decode cJ7_copyOf_1904c 3 = .ok (.invokevirtual 86, 3) := by decide +kernel
theorem dJ7_copyOf_1904c_6 : decode cJ7_copyOf_1904c 6 = .ok (.invokestatic 300, 3) := by decide +kernel
theorem dJ7_copyOf_1904c_9 : decode cJ7_copyOf_1904c 9 = .ok (.areturn, 1) := by decide +kernel
theorem dJ7_copyOf_6403c_0 : decode cJ7_copyOf_6403c 0 = .ok (.aload_n 2, 1) := by decide +kernel
theorem dJ7_copyOf_6403c_1 : decode cJ7_copyOf_6403c 1 = .ok (.ldc 110, 2) := by decide +kernel
theorem dJ7_copyOf_6403c_3 : decode cJ7_copyOf_6403c 3 = .ok (.if_acmp .ne 10, 3) := by decide +kernel
theorem dJ7_copyOf_6403c_6 : decode cJ7_copyOf_6403c 6 = .ok (.iload_n 1, 1) := by decide +kernel
theorem dJ7_copyOf_6403c_7 : decode cJ7_copyOf_6403c 7 = .ok (.anewarray 2, 3) := by decide +kernel
theorem dJ7_copyOf_6403c_10 : decode cJ7_copyOf_6403c 10 = .ok (.goto 14, 3) := by decide +kernel
theorem dJ7_copyOf_6403c_13 : decode cJ7_copyOf_6403c 13 = .ok (.aload_n 2, 1) := by decide +kernel
theorem dJ7_copyOf_6403c_14 : decode cJ7_copyOf_6403c 14 = .ok (.invokevirtual 90, 3) := by decide +kernel
theorem dJ7_copyOf_6403c_17 : decode cJ7_copyOf_6403c 17 = .ok (.iload_n 1, 1) := by decide +kernel
theorem dJ7_copyOf_6403c_18 : decode cJ7_copyOf_6403c 18 = .ok (.invokestatic 95, 3) := by decide +kernel
theorem dJ7_copyOf_6403c_21 : decode cJ7_copyOf_6403c 21 = .ok (.checkcast 110, 3) := by decide +kernel
theorem dJ7_copyOf_6403c_24 : decode cJ7_copyOf_6403c 24 = .ok (.astore_n 3, 1) := by decide +kernel
theorem dJ7_copyOf_6403c_25 : decode cJ7_copyOf_6403c 25 = .ok (.aload_n 0, 1) := by decide +kernel
theorem dJ7_copyOf_6403c_26 : decode cJ7_copyOf_6403c 26 = .ok (.iconst 0, 1) := by decide +kernel
theorem dJ7_copyOf_6403c_27 : decode cJ7_copyOf_6403c 27 = .ok (.aload_n 3, 1) := by decide +kernel
theorem dJ7_copyOf_6403c_28 : decode cJ7_copyOf_6403c 28 = .ok (.iconst 0, 1) := by decide +kernel
theorem dJ7_copyOf_6403c_29 : decode cJ7_copyOf_6403c 29 = .ok (.aload_n 0, 1) := by decide +kernel
theorem dJ7_copyOf_6403c_30 : decode cJ7_copyOf_6403c 30 = .ok (.arraylength, 1) := by decide +kernel
theorem dJ7_copyOf_6403c_31 : decode cJ7_copyOf_6403c 31 = .ok (.iload_n 1, 1) := by decide +kernel
theorem dJ7_copyOf_6403c_32 : decode cJ7_copyOf_6403c 32 = .ok (.invokestatic 304, 3) := by decide +kernel
theorem dJ7_copyOf_6403c_35 : decode cJ7_copyOf_6403c 35 = .ok (.invokestatic 150, 3) := by decide +kernel
theorem dJ7_copyOf_6403c_38 : decode cJ7_copyOf_6403c 38 = .ok (.aload_n 3, 1) := by decide +kernel
theorem dJ7_copyOf_6403c_39 : decode cJ7_copyOf_6403c 39 = .ok (.areturn, 1) := by decide +kernel
theorem dJ15_checkIndex_7cf53_0 : decode cJ15_checkIndex_7cf53 0 = .ok (.iload_n 0, 1) := by decide +kernel
theorem dJ15_checkIndex_7cf53_1 : decode cJ15_checkIndex_7cf53 1 = .ok (.iload_n 1, 1) := by decide +kernel
theorem dJ15_checkIndex_7cf53_2 : decode cJ15_checkIndex_7cf53 2 = .ok (.aconst_null, 1) := by decide +kernel
theorem dJ15_checkIndex_7cf53_3 : decode cJ15_checkIndex_7cf53 3 = .ok (.invokestatic 105, 3) := by decide +kernel
theorem dJ15_checkIndex_7cf53_6 : decode cJ15_checkIndex_7cf53 6 = .ok (.ireturn, 1) := by decide +kernel
theorem dJ8_newLength_cabcc_0 : decode cJ8_newLength_cabcc 0 = .ok (.iload_n 0, 1) := by decide +kernel
theorem dJ8_newLength_cabcc_1 : decode cJ8_newLength_cabcc 1 = .ok (.iload_n 1, 1) := by decide +kernel
theorem dJ8_newLength_cabcc_2 : decode cJ8_newLength_cabcc 2 = .ok (.iload_n 2, 1) := by decide +kernel
theorem dJ8_newLength_cabcc_3 : decode cJ8_newLength_cabcc 3 = .ok (.invokestatic 194, 3) := by decide +kernel
theorem dJ8_newLength_cabcc_6 : decode cJ8_newLength_cabcc 6 = .ok (.iadd, 1) := by decide +kernel
theorem dJ8_newLength_cabcc_7 : decode cJ8_newLength_cabcc 7 = .ok (.istore_n 3, 1) := by decide +kernel
theorem dJ8_newLength_cabcc_8 : decode cJ8_newLength_cabcc 8 = .ok (.iconst 0, 1) := by decide +kernel
theorem dJ8_newLength_cabcc_9 : decode cJ8_newLength_cabcc 9 = .ok (.iload_n 3, 1) := by decide +kernel
theorem dJ8_newLength_cabcc_10 : decode cJ8_newLength_cabcc 10 = .ok (.if_icmp .ge 11, 3) := by decide +kernel
theorem dJ8_newLength_cabcc_13 : decode cJ8_newLength_cabcc 13 = .ok (.iload_n 3, 1) := by decide +kernel
theorem dJ8_newLength_cabcc_14 : decode cJ8_newLength_cabcc 14 = .ok (.ldc 200, 2) := by decide +kernel
theorem dJ8_newLength_cabcc_16 : decode cJ8_newLength_cabcc 16 = .ok (.if_icmp .gt 5, 3) := by decide +kernel
theorem dJ8_newLength_cabcc_19 : decode cJ8_newLength_cabcc 19 = .ok (.iload_n 3, 1) := by decide +kernel
theorem dJ8_newLength_cabcc_20 : decode cJ8_newLength_cabcc 20 = .ok (.ireturn, 1) := by decide +kernel
theorem dJ8_newLength_cabcc_21 : decode cJ8_newLength_cabcc 21 = .ok (.iload_n 0, 1) := by decide +kernel
theorem dJ8_newLength_cabcc_22 : decode cJ8_newLength_cabcc 22 = .ok (.iload_n 1, 1) := by decide +kernel
theorem dJ8_newLength_cabcc_23 : decode cJ8_newLength_cabcc 23 = .ok (.invokestatic 201, 3) := by decide +kernel
theorem dJ8_newLength_cabcc_26 : decode cJ8_newLength_cabcc 26 = .ok (.ireturn, 1) := by decide +kernel
theorem dJ8_hugeLength_7cf53_0 : decode cJ8_hugeLength_7cf53 0 = .ok (.iload_n 0, 1) := by decide +kernel
theorem dJ8_hugeLength_7cf53_1 : decode cJ8_hugeLength_7cf53 1 = .ok (.iload_n 1, 1) := by decide +kernel
theorem dJ8_hugeLength_7cf53_2 : decode cJ8_hugeLength_7cf53 2 = .ok (.iadd, 1) := by decide +kernel
theorem dJ8_hugeLength_7cf53_3 : decode cJ8_hugeLength_7cf53 3 = .ok (.istore_n 2, 1) := by decide +kernel
theorem dJ8_hugeLength_7cf53_4 : decode cJ8_hugeLength_7cf53 4 = .ok (.iload_n 2, 1) := by decide +kernel
theorem dJ8_hugeLength_7cf53_5 : decode cJ8_hugeLength_7cf53 5 = .ok (.ifCond .ge 44, 3) := by decide +kernel
theorem dJ8_hugeLength_7cf53_8 : decode cJ8_hugeLength_7cf53 8 = .ok (.new 204, 3) := by decide +kernel
theorem dJ8_hugeLength_7cf53_11 : decode cJ8_hugeLength_7cf53 11 = .ok (.dup, 1) := by decide +kernel
theorem dJ8_hugeLength_7cf53_12 : decode cJ8_hugeLength_7cf53 12 = .ok (.new 89, 3) := by decide +kernel
theorem dJ8_hugeLength_7cf53_15 : decode cJ8_hugeLength_7cf53 15 = .ok (.dup, 1) := by decide +kernel
theorem dJ8_hugeLength_7cf53_16 : decode cJ8_hugeLength_7cf53 16 = .ok (.invokespecial 91, 3) := by decide +kernel
theorem dJ8_hugeLength_7cf53_19 : decode cJ8_hugeLength_7cf53 19 = .ok (.ldc 206, 2) := by decide +kernel
theorem dJ8_hugeLength_7cf53_21 : decode cJ8_hugeLength_7cf53 21 = .ok (.invokevirtual 94, 3) := by decide +kernel
theorem dJ8_hugeLength_7cf53_24 : decode cJ8_hugeLength_7cf53 24 = .ok (.iload_n 0, 1) := by decide +kernel
theorem dJ8_hugeLength_7cf53_25 : decode cJ8_hugeLength_7cf53 25 = .ok (.invokevirtual 98, 3) := by decide +kernel
theorem dJ8_hugeLength_7cf53_28 : decode cJ8_hugeLength_7cf53 28 = .ok (.ldc 208, 2) := by decide +kernel
theorem dJ8_hugeLength_7cf53_30 : decode cJ8_hugeLength_7cf53 30 = .ok (.invokevirtual 94, 3) := by decide +kernel
theorem dJ8_hugeLength_7cf53_33 : decode cJ8_hugeLength_7cf53 33 = .ok (.iload_n 1, 1) := by decide +kernel
theorem dJ8_hugeLength_7cf53_34 : decode cJ8_hugeLength_7cf53 34 = .ok (.invokevirtual 98, 3) := by decide +kernel
theorem dJ8_hugeLength_7cf53_37 : decode cJ8_hugeLength_7cf53 37 = .ok (.ldc 210, 2) := by decide +kernel
theorem dJ8_hugeLength_7cf53_39 : decode cJ8_hugeLength_7cf53 39 = .ok (.invokevirtual 94, 3) := by decide +kernel
theorem dJ8_hugeLength_7cf53_42 : decode cJ8_hugeLength_7cf53 42 = .ok (.invokevirtual 101, 3) := by decide +kernel
theorem dJ8_hugeLength_7cf53_45 : decode cJ8_hugeLength_7cf53 45 = .ok (.invokespecial 212, 3) := by decide +kernel
theorem dJ8_hugeLength_7cf53_48 : decode cJ8_hugeLength_7cf53 48 = .ok (.athrow, 1) := by decide +kernel
theorem dJ8_hugeLength_7cf53_49 : decode cJ8_hugeLength_7cf53 49 = .ok (.iload_n 2, 1) := by decide +kernel
theorem dJ8_hugeLength_7cf53_50 : decode cJ8_hugeLength_7cf53 50 = .ok (.ldc 200, 2) := by decide +kernel
theorem dJ8_hugeLength_7cf53_52 : decode cJ8_hugeLength_7cf53 52 = .ok (.if_icmp .gt 6, 3) := by decide +kernel
theorem dJ8_hugeLength_7cf53_55 : decode cJ8_hugeLength_7cf53 55 = .ok (.ldc 200, 2) := by decide +kernel
theorem dJ8_hugeLength_7cf53_57 : decode cJ8_hugeLength_7cf53 57 = .ok (.ireturn, 1) := by decide +kernel
theorem dJ8_hugeLength_7cf53_58 : decode cJ8_hugeLength_7cf53 58 = .ok (.iload_n 2, 1) := by decide +kernel
theorem dJ8_hugeLength_7cf53_59 : decode cJ8_hugeLength_7cf53 59 = .ok (.ireturn, 1) := by decide +kernel
theorem dJ3_checkIndex_8e157_0 : decode cJ3_checkIndex_8e157 0 = .ok (.iload_n 0, 1) := by decide +kernel
theorem dJ3_checkIndex_8e157_1 : decode cJ3_checkIndex_8e157 1 = .ok (.ifCond .lt 8, 3) := by decide +kernel
theorem dJ3_checkIndex_8e157_4 : decode cJ3_checkIndex_8e157 4 = .ok (.iload_n 0, 1) := by decide +kernel
theorem dJ3_checkIndex_8e157_5 : decode cJ3_checkIndex_8e157 5 = .ok (.iload_n 1, 1) := by decide +kernel
theorem dJ3_checkIndex_8e157_6 : decode cJ3_checkIndex_8e157 6 = .ok (.if_icmp .lt 10, 3) := by decide +kernel
theorem dJ3_checkIndex_8e157_9 : decode cJ3_checkIndex_8e157 9 = .ok (.aload_n 2, 1) := by decide +kernel
theorem dJ3_checkIndex_8e157_10 : decode cJ3_checkIndex_8e157 10 = .ok (.iload_n 0, 1) := by decide +kernel
theorem dJ3_checkIndex_8e157_11 : decode cJ3_checkIndex_8e157 11 = .ok (.iload_n 1, 1) := by decide +kernel
theorem dJ3_checkIndex_8e157_12 : decode cJ3_checkIndex_8e157 12 = .ok (.invokestatic 95, 3) := by decide +kernel
theorem dJ3_checkIndex_8e157_15 : decode cJ3_checkIndex_8e157 15 = .ok (.athrow, 1) := by decide +kernel
theorem dJ3_checkIndex_8e157_16 : decode cJ3_checkIndex_8e157 16 = .ok (.iload_n 0, 1) := by decide +kernel
theorem dJ3_checkIndex_8e157_17 : decode cJ3_checkIndex_8e157 17 = .ok (.ireturn, 1) := by decide +kernel
theorem dL_setMode_0 : decode cL_setMode 0 = .ok (.aload_n 3, 1) := by decide +kernel
theorem dL_setMode_1 : decode cL_setMode 1 = .ok (.iconst 0, 1) := by decide +kernel
theorem dL_setMode_2 : decode cL_setMode 2 = .ok (.aload_n 0, 1) := by decide +kernel
theorem dL_setMode_3 : decode cL_setMode 3 = .ok (.iload_n 1, 1) := by decide +kernel
theorem dL_setMode_4 : decode cL_setMode 4 = .ok (.iload_n 2, 1) := by decide +kernel
theorem dL_setMode_5 : decode cL_setMode 5 = .ok (.invokevirtual 7, 3) := by decide +kernel
theorem dL_setMode_8 : decode cL_setMode 8 = .ok (.i2l, 1) := by decide +kernel
theorem dL_setMode_9 : decode cL_setMode 9 = .ok (.lastore, 1) := by decide +kernel
theorem dL_setMode_10 : decode cL_setMode 10 = .ok (.goto 11, 3) := by decide +kernel
theorem dL_setMode_13 : decode cL_setMode 13 = .ok (.astore 4, 2) := by decide +kernel
theorem dL_setMode_15 : decode cL_setMode 15 = .ok (.iconst 1, 1) := by decide +kernel
theorem dL_setMode_16 : decode cL_setMode 16 = .ok (.ireturn, 1) := by decide +kernel
theorem dL_setMode_17 : decode cL_setMode 17 = .ok (.astore 4, 2) := by decide +kernel
theorem dL_setMode_19 : decode cL_setMode 19 = .ok (.iconst 2, 1) := by decide +kernel
theorem dL_setMode_20 : decode cL_setMode 20 = .ok (.ireturn, 1) := by decide +kernel
theorem dL_setMode_21 : decode cL_setMode 21 = .ok (.iconst 0, 1) := by decide +kernel
theorem dL_setMode_22 : decode cL_setMode 22 = .ok (.ireturn, 1) := by decide +kernel
theorem dL_grant_0 : decode cL_grant 0 = .ok (.aload_n 3, 1) := by decide +kernel
theorem dL_grant_1 : decode cL_grant 1 = .ok (.iconst 0, 1) := by decide +kernel
theorem dL_grant_2 : decode cL_grant 2 = .ok (.aload_n 0, 1) := by decide +kernel
theorem dL_grant_3 : decode cL_grant 3 = .ok (.iload_n 1, 1) := by decide +kernel
theorem dL_grant_4 : decode cL_grant 4 = .ok (.iload_n 2, 1) := by decide +kernel
theorem dL_grant_5 : decode cL_grant 5 = .ok (.invokevirtual 17, 3) := by decide +kernel
theorem dL_grant_8 : decode cL_grant 8 = .ok (.i2l, 1) := by decide +kernel
theorem dL_grant_9 : decode cL_grant 9 = .ok (.lastore, 1) := by decide +kernel
theorem dL_grant_10 : decode cL_grant 10 = .ok (.goto 15, 3) := by decide +kernel
theorem dL_grant_13 : decode cL_grant 13 = .ok (.astore 4, 2) := by decide +kernel
theorem dL_grant_15 : decode cL_grant 15 = .ok (.iconst 1, 1) := by decide +kernel
theorem dL_grant_16 : decode cL_grant 16 = .ok (.ireturn, 1) := by decide +kernel
theorem dL_grant_17 : decode cL_grant 17 = .ok (.astore 4, 2) := by decide +kernel
theorem dL_grant_19 : decode cL_grant 19 = .ok (.iconst 2, 1) := by decide +kernel
theorem dL_grant_20 : decode cL_grant 20 = .ok (.ireturn, 1) := by decide +kernel
theorem dL_grant_21 : decode cL_grant 21 = .ok (.astore 4, 2) := by decide +kernel
theorem dL_grant_23 : decode cL_grant 23 = .ok (.iconst 3, 1) := by decide +kernel
theorem dL_grant_24 : decode cL_grant 24 = .ok (.ireturn, 1) := by decide +kernel
theorem dL_grant_25 : decode cL_grant 25 = .ok (.iconst 0, 1) := by decide +kernel
theorem dL_grant_26 : decode cL_grant 26 = .ok (.ireturn, 1) := by decide +kernel
theorem dL_credit_0 : decode cL_credit 0 = .ok (.aload_n 2, 1) := by decide +kernel
theorem dL_credit_1 : decode cL_credit 1 = .ok (.iconst 0, 1) := by decide +kernel
theorem dL_credit_2 : decode cL_credit 2 = .ok (.aload_n 0, 1) := by decide +kernel
theorem dL_credit_3 : decode cL_credit 3 = .ok (.iload_n 1, 1) := by decide +kernel
theorem dL_credit_4 : decode cL_credit 4 = .ok (.invokevirtual 22, 3) := by decide +kernel
theorem dL_credit_7 : decode cL_credit 7 = .ok (.i2l, 1) := by decide +kernel
theorem dL_credit_8 : decode cL_credit 8 = .ok (.lastore, 1) := by decide +kernel
theorem dL_credit_9 : decode cL_credit 9 = .ok (.goto 6, 3) := by decide +kernel
theorem dL_credit_12 : decode cL_credit 12 = .ok (.astore_n 3, 1) := by decide +kernel
theorem dL_credit_13 : decode cL_credit 13 = .ok (.iconst 1, 1) := by decide +kernel
theorem dL_credit_14 : decode cL_credit 14 = .ok (.ireturn, 1) := by decide +kernel
theorem dL_credit_15 : decode cL_credit 15 = .ok (.iconst 0, 1) := by decide +kernel
theorem dL_credit_16 : decode cL_credit 16 = .ok (.ireturn, 1) := by decide +kernel
theorem dL_send_0 : decode cL_send 0 = .ok (.aload_n 3, 1) := by decide +kernel
theorem dL_send_1 : decode cL_send 1 = .ok (.iconst 0, 1) := by decide +kernel
theorem dL_send_2 : decode cL_send 2 = .ok (.aload_n 0, 1) := by decide +kernel
theorem dL_send_3 : decode cL_send 3 = .ok (.iload_n 1, 1) := by decide +kernel
theorem dL_send_4 : decode cL_send 4 = .ok (.iload_n 2, 1) := by decide +kernel
theorem dL_send_5 : decode cL_send 5 = .ok (.invokevirtual 26, 3) := by decide +kernel
theorem dL_send_8 : decode cL_send 8 = .ok (.i2l, 1) := by decide +kernel
theorem dL_send_9 : decode cL_send 9 = .ok (.lastore, 1) := by decide +kernel
theorem dL_send_10 : decode cL_send 10 = .ok (.goto 15, 3) := by decide +kernel
theorem dL_send_13 : decode cL_send 13 = .ok (.astore 4, 2) := by decide +kernel
theorem dL_send_15 : decode cL_send 15 = .ok (.iconst 1, 1) := by decide +kernel
theorem dL_send_16 : decode cL_send 16 = .ok (.ireturn, 1) := by decide +kernel
theorem dL_send_17 : decode cL_send 17 = .ok (.astore 4, 2) := by decide +kernel
theorem dL_send_19 : decode cL_send 19 = .ok (.iconst 2, 1) := by decide +kernel
theorem dL_send_20 : decode cL_send 20 = .ok (.ireturn, 1) := by decide +kernel
theorem dL_send_21 : decode cL_send 21 = .ok (.astore 4, 2) := by decide +kernel
theorem dL_send_23 : decode cL_send 23 = .ok (.iconst 3, 1) := by decide +kernel
theorem dL_send_24 : decode cL_send 24 = .ok (.ireturn, 1) := by decide +kernel
theorem dL_send_25 : decode cL_send 25 = .ok (.iconst 0, 1) := by decide +kernel
theorem dL_send_26 : decode cL_send 26 = .ok (.ireturn, 1) := by decide +kernel
theorem dL_toReceiver_0 : decode cL_toReceiver 0 = .ok (.aload_n 2, 1) := by decide +kernel
theorem dL_toReceiver_1 : decode cL_toReceiver 1 = .ok (.iconst 0, 1) := by decide +kernel
theorem dL_toReceiver_2 : decode cL_toReceiver 2 = .ok (.aload_n 0, 1) := by decide +kernel
theorem dL_toReceiver_3 : decode cL_toReceiver 3 = .ok (.iload_n 1, 1) := by decide +kernel
theorem dL_toReceiver_4 : decode cL_toReceiver 4 = .ok (.invokevirtual 29, 3) := by decide +kernel
theorem dL_toReceiver_7 : decode cL_toReceiver 7 = .ok (.i2l, 1) := by decide +kernel
theorem dL_toReceiver_8 : decode cL_toReceiver 8 = .ok (.lastore, 1) := by decide +kernel
theorem dL_toReceiver_9 : decode cL_toReceiver 9 = .ok (.goto 6, 3) := by decide +kernel
theorem dL_toReceiver_12 : decode cL_toReceiver 12 = .ok (.astore_n 3, 1) := by decide +kernel
theorem dL_toReceiver_13 : decode cL_toReceiver 13 = .ok (.iconst 1, 1) := by decide +kernel
theorem dL_toReceiver_14 : decode cL_toReceiver 14 = .ok (.ireturn, 1) := by decide +kernel
theorem dL_toReceiver_15 : decode cL_toReceiver 15 = .ok (.iconst 0, 1) := by decide +kernel
theorem dL_toReceiver_16 : decode cL_toReceiver 16 = .ok (.ireturn, 1) := by decide +kernel
theorem dL_toSender_0 : decode cL_toSender 0 = .ok (.aload_n 2, 1) := by decide +kernel
theorem dL_toSender_1 : decode cL_toSender 1 = .ok (.iconst 0, 1) := by decide +kernel
theorem dL_toSender_2 : decode cL_toSender 2 = .ok (.aload_n 0, 1) := by decide +kernel
theorem dL_toSender_3 : decode cL_toSender 3 = .ok (.iload_n 1, 1) := by decide +kernel
theorem dL_toSender_4 : decode cL_toSender 4 = .ok (.invokevirtual 32, 3) := by decide +kernel
theorem dL_toSender_7 : decode cL_toSender 7 = .ok (.i2l, 1) := by decide +kernel
theorem dL_toSender_8 : decode cL_toSender 8 = .ok (.lastore, 1) := by decide +kernel
theorem dL_toSender_9 : decode cL_toSender 9 = .ok (.goto 6, 3) := by decide +kernel
theorem dL_toSender_12 : decode cL_toSender 12 = .ok (.astore_n 3, 1) := by decide +kernel
theorem dL_toSender_13 : decode cL_toSender 13 = .ok (.iconst 1, 1) := by decide +kernel
theorem dL_toSender_14 : decode cL_toSender 14 = .ok (.ireturn, 1) := by decide +kernel
theorem dL_toSender_15 : decode cL_toSender 15 = .ok (.iconst 0, 1) := by decide +kernel
theorem dL_toSender_16 : decode cL_toSender 16 = .ok (.ireturn, 1) := by decide +kernel
theorem dL_decide_0 : decode cL_decide 0 = .ok (.aload_n 3, 1) := by decide +kernel
theorem dL_decide_1 : decode cL_decide 1 = .ok (.iconst 0, 1) := by decide +kernel
theorem dL_decide_2 : decode cL_decide 2 = .ok (.aload_n 0, 1) := by decide +kernel
theorem dL_decide_3 : decode cL_decide 3 = .ok (.iload_n 1, 1) := by decide +kernel
theorem dL_decide_4 : decode cL_decide 4 = .ok (.iload_n 2, 1) := by decide +kernel
theorem dL_decide_5 : decode cL_decide 5 = .ok (.invokevirtual 35, 3) := by decide +kernel
theorem dL_decide_8 : decode cL_decide 8 = .ok (.i2l, 1) := by decide +kernel
theorem dL_decide_9 : decode cL_decide 9 = .ok (.lastore, 1) := by decide +kernel
theorem dL_decide_10 : decode cL_decide 10 = .ok (.goto 15, 3) := by decide +kernel
theorem dL_decide_13 : decode cL_decide 13 = .ok (.astore 4, 2) := by decide +kernel
theorem dL_decide_15 : decode cL_decide 15 = .ok (.iconst 1, 1) := by decide +kernel
theorem dL_decide_16 : decode cL_decide 16 = .ok (.ireturn, 1) := by decide +kernel
theorem dL_decide_17 : decode cL_decide 17 = .ok (.astore 4, 2) := by decide +kernel
theorem dL_decide_19 : decode cL_decide 19 = .ok (.iconst 2, 1) := by decide +kernel
theorem dL_decide_20 : decode cL_decide 20 = .ok (.ireturn, 1) := by decide +kernel
theorem dL_decide_21 : decode cL_decide 21 = .ok (.astore 4, 2) := by decide +kernel
theorem dL_decide_23 : decode cL_decide 23 = .ok (.iconst 3, 1) := by decide +kernel
theorem dL_decide_24 : decode cL_decide 24 = .ok (.ireturn, 1) := by decide +kernel
theorem dL_decide_25 : decode cL_decide 25 = .ok (.iconst 0, 1) := by decide +kernel
theorem dL_decide_26 : decode cL_decide 26 = .ok (.ireturn, 1) := by decide +kernel
theorem dL_forSender_0 : decode cL_forSender 0 = .ok (.aload_n 2, 1) := by decide +kernel
theorem dL_forSender_1 : decode cL_forSender 1 = .ok (.iconst 0, 1) := by decide +kernel
theorem dL_forSender_2 : decode cL_forSender 2 = .ok (.aload_n 0, 1) := by decide +kernel
theorem dL_forSender_3 : decode cL_forSender 3 = .ok (.iload_n 1, 1) := by decide +kernel
theorem dL_forSender_4 : decode cL_forSender 4 = .ok (.invokevirtual 38, 3) := by decide +kernel
theorem dL_forSender_7 : decode cL_forSender 7 = .ok (.i2l, 1) := by decide +kernel
theorem dL_forSender_8 : decode cL_forSender 8 = .ok (.lastore, 1) := by decide +kernel
theorem dL_forSender_9 : decode cL_forSender 9 = .ok (.goto 6, 3) := by decide +kernel
theorem dL_forSender_12 : decode cL_forSender 12 = .ok (.astore_n 3, 1) := by decide +kernel
theorem dL_forSender_13 : decode cL_forSender 13 = .ok (.iconst 1, 1) := by decide +kernel
theorem dL_forSender_14 : decode cL_forSender 14 = .ok (.ireturn, 1) := by decide +kernel
theorem dL_forSender_15 : decode cL_forSender 15 = .ok (.iconst 0, 1) := by decide +kernel
theorem dL_forSender_16 : decode cL_forSender 16 = .ok (.ireturn, 1) := by decide +kernel
theorem dL_heard_0 : decode cL_heard 0 = .ok (.aload_n 2, 1) := by decide +kernel
theorem dL_heard_1 : decode cL_heard 1 = .ok (.iconst 0, 1) := by decide +kernel
theorem dL_heard_2 : decode cL_heard 2 = .ok (.aload_n 0, 1) := by decide +kernel
theorem dL_heard_3 : decode cL_heard 3 = .ok (.iload_n 1, 1) := by decide +kernel
theorem dL_heard_4 : decode cL_heard 4 = .ok (.invokevirtual 41, 3) := by decide +kernel
theorem dL_heard_7 : decode cL_heard 7 = .ok (.i2l, 1) := by decide +kernel
theorem dL_heard_8 : decode cL_heard 8 = .ok (.lastore, 1) := by decide +kernel
theorem dL_heard_9 : decode cL_heard 9 = .ok (.goto 6, 3) := by decide +kernel
theorem dL_heard_12 : decode cL_heard 12 = .ok (.astore_n 3, 1) := by decide +kernel
theorem dL_heard_13 : decode cL_heard 13 = .ok (.iconst 1, 1) := by decide +kernel
theorem dL_heard_14 : decode cL_heard 14 = .ok (.ireturn, 1) := by decide +kernel
theorem dL_heard_15 : decode cL_heard 15 = .ok (.iconst 0, 1) := by decide +kernel
theorem dL_heard_16 : decode cL_heard 16 = .ok (.ireturn, 1) := by decide +kernel
theorem dL_forReceiver_0 : decode cL_forReceiver 0 = .ok (.aload_n 2, 1) := by decide +kernel
theorem dL_forReceiver_1 : decode cL_forReceiver 1 = .ok (.iconst 0, 1) := by decide +kernel
theorem dL_forReceiver_2 : decode cL_forReceiver 2 = .ok (.aload_n 0, 1) := by decide +kernel
theorem dL_forReceiver_3 : decode cL_forReceiver 3 = .ok (.iload_n 1, 1) := by decide +kernel
theorem dL_forReceiver_4 : decode cL_forReceiver 4 = .ok (.invokevirtual 44, 3) := by decide +kernel
theorem dL_forReceiver_7 : decode cL_forReceiver 7 = .ok (.i2l, 1) := by decide +kernel
theorem dL_forReceiver_8 : decode cL_forReceiver 8 = .ok (.lastore, 1) := by decide +kernel
theorem dL_forReceiver_9 : decode cL_forReceiver 9 = .ok (.goto 6, 3) := by decide +kernel
theorem dL_forReceiver_12 : decode cL_forReceiver 12 = .ok (.astore_n 3, 1) := by decide +kernel
theorem dL_forReceiver_13 : decode cL_forReceiver 13 = .ok (.iconst 1, 1) := by decide +kernel
theorem dL_forReceiver_14 : decode cL_forReceiver 14 = .ok (.ireturn, 1) := by decide +kernel
theorem dL_forReceiver_15 : decode cL_forReceiver 15 = .ok (.iconst 0, 1) := by decide +kernel
theorem dL_forReceiver_16 : decode cL_forReceiver 16 = .ok (.ireturn, 1) := by decide +kernel
theorem dL_effects_0 : decode cL_effects 0 = .ok (.aload_n 2, 1) := by decide +kernel
theorem dL_effects_1 : decode cL_effects 1 = .ok (.iconst 0, 1) := by decide +kernel
theorem dL_effects_2 : decode cL_effects 2 = .ok (.aload_n 0, 1) := by decide +kernel
theorem dL_effects_3 : decode cL_effects 3 = .ok (.iload_n 1, 1) := by decide +kernel
theorem dL_effects_4 : decode cL_effects 4 = .ok (.invokevirtual 47, 3) := by decide +kernel
theorem dL_effects_7 : decode cL_effects 7 = .ok (.i2l, 1) := by decide +kernel
theorem dL_effects_8 : decode cL_effects 8 = .ok (.lastore, 1) := by decide +kernel
theorem dL_effects_9 : decode cL_effects 9 = .ok (.goto 6, 3) := by decide +kernel
theorem dL_effects_12 : decode cL_effects 12 = .ok (.astore_n 3, 1) := by decide +kernel
theorem dL_effects_13 : decode cL_effects 13 = .ok (.iconst 1, 1) := by decide +kernel
theorem dL_effects_14 : decode cL_effects 14 = .ok (.ireturn, 1) := by decide +kernel
theorem dL_effects_15 : decode cL_effects 15 = .ok (.iconst 0, 1) := by decide +kernel
theorem dL_effects_16 : decode cL_effects 16 = .ok (.ireturn, 1) := by decide +kernel
theorem dL_breakOff_0 : decode cL_breakOff 0 = .ok (.aload_n 1, 1) := by decide +kernel
theorem dL_breakOff_1 : decode cL_breakOff 1 = .ok (.iconst 0, 1) := by decide +kernel
theorem dL_breakOff_2 : decode cL_breakOff 2 = .ok (.aload_n 0, 1) := by decide +kernel
theorem dL_breakOff_3 : decode cL_breakOff 3 = .ok (.invokevirtual 50, 3) := by decide +kernel
theorem dL_breakOff_6 : decode cL_breakOff 6 = .ok (.i2l, 1) := by decide +kernel
theorem dL_breakOff_7 : decode cL_breakOff 7 = .ok (.lastore, 1) := by decide +kernel
theorem dL_breakOff_8 : decode cL_breakOff 8 = .ok (.goto 6, 3) := by decide +kernel
theorem dL_breakOff_11 : decode cL_breakOff 11 = .ok (.astore_n 2, 1) := by decide +kernel
theorem dL_breakOff_12 : decode cL_breakOff 12 = .ok (.iconst 1, 1) := by decide +kernel
theorem dL_breakOff_13 : decode cL_breakOff 13 = .ok (.ireturn, 1) := by decide +kernel
theorem dL_breakOff_14 : decode cL_breakOff 14 = .ok (.iconst 0, 1) := by decide +kernel
theorem dL_breakOff_15 : decode cL_breakOff 15 = .ok (.ireturn, 1) := by decide +kernel
theorem dL_join_0 : decode cL_join 0 = .ok (.aload_n 1, 1) := by decide +kernel
theorem dL_join_1 : decode cL_join 1 = .ok (.iconst 0, 1) := by decide +kernel
theorem dL_join_2 : decode cL_join 2 = .ok (.aload_n 0, 1) := by decide +kernel
theorem dL_join_3 : decode cL_join 3 = .ok (.invokevirtual 54, 3) := by decide +kernel
theorem dL_join_6 : decode cL_join 6 = .ok (.i2l, 1) := by decide +kernel
theorem dL_join_7 : decode cL_join 7 = .ok (.lastore, 1) := by decide +kernel
theorem dL_join_8 : decode cL_join 8 = .ok (.goto 6, 3) := by decide +kernel
theorem dL_join_11 : decode cL_join 11 = .ok (.astore_n 2, 1) := by decide +kernel
theorem dL_join_12 : decode cL_join 12 = .ok (.iconst 1, 1) := by decide +kernel
theorem dL_join_13 : decode cL_join 13 = .ok (.ireturn, 1) := by decide +kernel
theorem dL_join_14 : decode cL_join 14 = .ok (.iconst 0, 1) := by decide +kernel
theorem dL_join_15 : decode cL_join 15 = .ok (.ireturn, 1) := by decide +kernel
theorem dL_begin_0 : decode cL_begin 0 = .ok (.aload_n 1, 1) := by decide +kernel
theorem dL_begin_1 : decode cL_begin 1 = .ok (.iconst 0, 1) := by decide +kernel
theorem dL_begin_2 : decode cL_begin 2 = .ok (.aload_n 0, 1) := by decide +kernel
theorem dL_begin_3 : decode cL_begin 3 = .ok (.invokevirtual 57, 3) := by decide +kernel
theorem dL_begin_6 : decode cL_begin 6 = .ok (.i2l, 1) := by decide +kernel
theorem dL_begin_7 : decode cL_begin 7 = .ok (.lastore, 1) := by decide +kernel
theorem dL_begin_8 : decode cL_begin 8 = .ok (.goto 6, 3) := by decide +kernel
theorem dL_begin_11 : decode cL_begin 11 = .ok (.astore_n 2, 1) := by decide +kernel
theorem dL_begin_12 : decode cL_begin 12 = .ok (.iconst 1, 1) := by decide +kernel
theorem dL_begin_13 : decode cL_begin 13 = .ok (.ireturn, 1) := by decide +kernel
theorem dL_begin_14 : decode cL_begin 14 = .ok (.iconst 0, 1) := by decide +kernel
theorem dL_begin_15 : decode cL_begin 15 = .ok (.ireturn, 1) := by decide +kernel
theorem dL_tell_0 : decode cL_tell 0 = .ok (.aload_n 3, 1) := by decide +kernel
theorem dL_tell_1 : decode cL_tell 1 = .ok (.iconst 0, 1) := by decide +kernel
theorem dL_tell_2 : decode cL_tell 2 = .ok (.aload_n 0, 1) := by decide +kernel
theorem dL_tell_3 : decode cL_tell 3 = .ok (.iload_n 1, 1) := by decide +kernel
theorem dL_tell_4 : decode cL_tell 4 = .ok (.iload_n 2, 1) := by decide +kernel
theorem dL_tell_5 : decode cL_tell 5 = .ok (.invokevirtual 60, 3) := by decide +kernel
theorem dL_tell_8 : decode cL_tell 8 = .ok (.i2l, 1) := by decide +kernel
theorem dL_tell_9 : decode cL_tell 9 = .ok (.lastore, 1) := by decide +kernel
theorem dL_tell_10 : decode cL_tell 10 = .ok (.goto 15, 3) := by decide +kernel
theorem dL_tell_13 : decode cL_tell 13 = .ok (.astore 4, 2) := by decide +kernel
theorem dL_tell_15 : decode cL_tell 15 = .ok (.iconst 1, 1) := by decide +kernel
theorem dL_tell_16 : decode cL_tell 16 = .ok (.ireturn, 1) := by decide +kernel
theorem dL_tell_17 : decode cL_tell 17 = .ok (.astore 4, 2) := by decide +kernel
theorem dL_tell_19 : decode cL_tell 19 = .ok (.iconst 2, 1) := by decide +kernel
theorem dL_tell_20 : decode cL_tell 20 = .ok (.ireturn, 1) := by decide +kernel
theorem dL_tell_21 : decode cL_tell 21 = .ok (.astore 4, 2) := by decide +kernel
theorem dL_tell_23 : decode cL_tell 23 = .ok (.iconst 3, 1) := by decide +kernel
theorem dL_tell_24 : decode cL_tell 24 = .ok (.ireturn, 1) := by decide +kernel
theorem dL_tell_25 : decode cL_tell 25 = .ok (.iconst 0, 1) := by decide +kernel
theorem dL_tell_26 : decode cL_tell 26 = .ok (.ireturn, 1) := by decide +kernel
theorem dL_end_0 : decode cL_end 0 = .ok (.aload_n 2, 1) := by decide +kernel
theorem dL_end_1 : decode cL_end 1 = .ok (.iconst 0, 1) := by decide +kernel
theorem dL_end_2 : decode cL_end 2 = .ok (.aload_n 0, 1) := by decide +kernel
theorem dL_end_3 : decode cL_end 3 = .ok (.iload_n 1, 1) := by decide +kernel
theorem dL_end_4 : decode cL_end 4 = .ok (.invokevirtual 63, 3) := by decide +kernel
theorem dL_end_7 : decode cL_end 7 = .ok (.i2l, 1) := by decide +kernel
theorem dL_end_8 : decode cL_end 8 = .ok (.lastore, 1) := by decide +kernel
theorem dL_end_9 : decode cL_end 9 = .ok (.goto 6, 3) := by decide +kernel
theorem dL_end_12 : decode cL_end 12 = .ok (.astore_n 3, 1) := by decide +kernel
theorem dL_end_13 : decode cL_end 13 = .ok (.iconst 1, 1) := by decide +kernel
theorem dL_end_14 : decode cL_end 14 = .ok (.ireturn, 1) := by decide +kernel
theorem dL_end_15 : decode cL_end 15 = .ok (.iconst 0, 1) := by decide +kernel
theorem dL_end_16 : decode cL_end 16 = .ok (.ireturn, 1) := by decide +kernel
theorem dL_law_0 : decode cL_law 0 = .ok (.new 8, 3) := by decide +kernel
theorem dL_law_3 : decode cL_law 3 = .ok (.dup, 1) := by decide +kernel
theorem dL_law_4 : decode cL_law 4 = .ok (.invokespecial 67, 3) := by decide +kernel
theorem dL_law_7 : decode cL_law 7 = .ok (.astore_n 1, 1) := by decide +kernel
theorem dL_law_8 : decode cL_law 8 = .ok (.new 68, 3) := by decide +kernel
theorem dL_law_11 : decode cL_law 11 = .ok (.dup, 1) := by decide +kernel
theorem dL_law_12 : decode cL_law 12 = .ok (.invokespecial 70, 3) := by decide +kernel
theorem dL_law_15 : decode cL_law 15 = .ok (.astore_n 2, 1) := by decide +kernel
theorem dL_law_16 : decode cL_law 16 = .ok (.iconst 1, 1) := by decide +kernel
theorem dL_law_17 : decode cL_law 17 = .ok (.newarray .long, 2) := by decide +kernel
theorem dL_law_19 : decode cL_law 19 = .ok (.astore_n 3, 1) := by decide +kernel
theorem dL_law_20 : decode cL_law 20 = .ok (.iconst 0, 1) := by decide +kernel
theorem dL_law_21 : decode cL_law 21 = .ok (.istore 4, 2) := by decide +kernel
theorem dL_law_23 : decode cL_law 23 = .ok (.iload 4, 2) := by decide +kernel
theorem dL_law_25 : decode cL_law 25 = .ok (.aload_n 0, 1) := by decide +kernel
theorem dL_law_26 : decode cL_law 26 = .ok (.arraylength, 1) := by decide +kernel
theorem dL_law_27 : decode cL_law 27 = .ok (.iconst 3, 1) := by decide +kernel
theorem dL_law_28 : decode cL_law 28 = .ok (.isub, 1) := by decide +kernel
theorem dL_law_29 : decode cL_law 29 = .ok (.if_icmp .gt 1114, 3) := by decide +kernel
theorem dL_law_32 : decode cL_law 32 = .ok (.aload_n 0, 1) := by decide +kernel
theorem dL_law_33 : decode cL_law 33 = .ok (.iload 4, 2) := by decide +kernel
theorem dL_law_35 : decode cL_law 35 = .ok (.iaload, 1) := by decide +kernel
theorem dL_law_36 : decode cL_law 36 = .ok (.bipush 31, 2) := by decide +kernel
theorem dL_law_38 : decode cL_law 38 = .ok (.iand, 1) := by decide +kernel
theorem dL_law_39 : decode cL_law 39 = .ok (.tableswitch 1098 0 20 #[97, 165, 233, 289, 357, 413, 469, 537, 550, 563, 576, 632, 688, 744, 800, 844, 888, 901, 914, 958, 1026], 97) := by decide +kernel
theorem dL_law_136 : decode cL_law 136 = .ok (.aload_n 1, 1) := by decide +kernel
theorem dL_law_137 : decode cL_law 137 = .ok (.aload_n 0, 1) := by decide +kernel
theorem dL_law_138 : decode cL_law 138 = .ok (.iload 4, 2) := by decide +kernel
theorem dL_law_140 : decode cL_law 140 = .ok (.iconst 1, 1) := by decide +kernel
theorem dL_law_141 : decode cL_law 141 = .ok (.iadd, 1) := by decide +kernel
theorem dL_law_142 : decode cL_law 142 = .ok (.iaload, 1) := by decide +kernel
theorem dL_law_143 : decode cL_law 143 = .ok (.aload_n 0, 1) := by decide +kernel
theorem dL_law_144 : decode cL_law 144 = .ok (.iload 4, 2) := by decide +kernel
theorem dL_law_146 : decode cL_law 146 = .ok (.iconst 2, 1) := by decide +kernel
theorem dL_law_147 : decode cL_law 147 = .ok (.iadd, 1) := by decide +kernel
theorem dL_law_148 : decode cL_law 148 = .ok (.iaload, 1) := by decide +kernel
theorem dL_law_149 : decode cL_law 149 = .ok (.aload_n 3, 1) := by decide +kernel
theorem dL_law_150 : decode cL_law 150 = .ok (.invokestatic 71, 3) := by decide +kernel
theorem dL_law_153 : decode cL_law 153 = .ok (.istore 5, 2) := by decide +kernel
theorem dL_law_155 : decode cL_law 155 = .ok (.aload_n 2, 1) := by decide +kernel
theorem dL_law_156 : decode cL_law 156 = .ok (.aload_n 0, 1) := by decide +kernel
theorem dL_law_157 : decode cL_law 157 = .ok (.iload 4, 2) := by decide +kernel
theorem dL_law_159 : decode cL_law 159 = .ok (.iconst 1, 1) := by decide +kernel
theorem dL_law_160 : decode cL_law 160 = .ok (.iadd, 1) := by decide +kernel
theorem dL_law_161 : decode cL_law 161 = .ok (.iaload, 1) := by decide +kernel
theorem dL_law_162 : decode cL_law 162 = .ok (.aload_n 0, 1) := by decide +kernel
theorem dL_law_163 : decode cL_law 163 = .ok (.iload 4, 2) := by decide +kernel
theorem dL_law_165 : decode cL_law 165 = .ok (.iconst 2, 1) := by decide +kernel
theorem dL_law_166 : decode cL_law 166 = .ok (.iadd, 1) := by decide +kernel
theorem dL_law_167 : decode cL_law 167 = .ok (.iaload, 1) := by decide +kernel
theorem dL_law_168 : decode cL_law 168 = .ok (.invokevirtual 76, 3) := by decide +kernel
theorem dL_law_171 : decode cL_law 171 = .ok (.istore 6, 2) := by decide +kernel
theorem dL_law_173 : decode cL_law 173 = .ok (.aload_n 2, 1) := by decide +kernel
theorem dL_law_174 : decode cL_law 174 = .ok (.invokevirtual 77, 3) := by decide +kernel
theorem dL_law_177 : decode cL_law 177 = .ok (.iload 5, 2) := by decide +kernel
theorem dL_law_179 : decode cL_law 179 = .ok (.if_icmp .eq 5, 3) := by decide +kernel
theorem dL_law_182 : decode cL_law 182 = .ok (.iconst 0, 1) := by decide +kernel
theorem dL_law_183 : decode cL_law 183 = .ok (.ireturn, 1) := by decide +kernel
theorem dL_law_184 : decode cL_law 184 = .ok (.iload 5, 2) := by decide +kernel
theorem dL_law_186 : decode cL_law 186 = .ok (.ifCond .ne 15, 3) := by decide +kernel
theorem dL_law_189 : decode cL_law 189 = .ok (.aload_n 3, 1) := by decide +kernel
theorem dL_law_190 : decode cL_law 190 = .ok (.iconst 0, 1) := by decide +kernel
theorem dL_law_191 : decode cL_law 191 = .ok (.laload, 1) := by decide +kernel
theorem dL_law_192 : decode cL_law 192 = .ok (.iload 6, 2) := by decide +kernel
theorem dL_law_194 : decode cL_law 194 = .ok (.i2l, 1) := by decide +kernel
theorem dL_law_195 : decode cL_law 195 = .ok (.lcmp, 1) := by decide +kernel
theorem dL_law_196 : decode cL_law 196 = .ok (.ifCond .eq 5, 3) := by decide +kernel
theorem dL_law_199 : decode cL_law 199 = .ok (.iconst 0, 1) := by decide +kernel
theorem dL_law_200 : decode cL_law 200 = .ok (.ireturn, 1) := by decide +kernel
theorem dL_law_201 : decode cL_law 201 = .ok (.goto 936, 3) := by decide +kernel
theorem dL_law_204 : decode cL_law 204 = .ok (.aload_n 1, 1) := by decide +kernel
theorem dL_law_205 : decode cL_law 205 = .ok (.aload_n 0, 1) := by decide +kernel
theorem dL_law_206 : decode cL_law 206 = .ok (.iload 4, 2) := by decide +kernel
theorem dL_law_208 : decode cL_law 208 = .ok (.iconst 1, 1) := by decide +kernel
theorem dL_law_209 : decode cL_law 209 = .ok (.iadd, 1) := by decide +kernel
theorem dL_law_210 : decode cL_law 210 = .ok (.iaload, 1) := by decide +kernel
theorem dL_law_211 : decode cL_law 211 = .ok (.aload_n 0, 1) := by decide +kernel
theorem dL_law_212 : decode cL_law 212 = .ok (.iload 4, 2) := by decide +kernel
theorem dL_law_214 : decode cL_law 214 = .ok (.iconst 2, 1) := by decide +kernel
theorem dL_law_215 : decode cL_law 215 = .ok (.iadd, 1) := by decide +kernel
theorem dL_law_216 : decode cL_law 216 = .ok (.iaload, 1) := by decide +kernel
theorem dL_law_217 : decode cL_law 217 = .ok (.aload_n 3, 1) := by decide +kernel
theorem dL_law_218 : decode cL_law 218 = .ok (.invokestatic 80, 3) := by decide +kernel
theorem dL_law_221 : decode cL_law 221 = .ok (.istore 5, 2) := by decide +kernel
theorem dL_law_223 : decode cL_law 223 = .ok (.aload_n 2, 1) := by decide +kernel
theorem dL_law_224 : decode cL_law 224 = .ok (.aload_n 0, 1) := by decide +kernel
theorem dL_law_225 : decode cL_law 225 = .ok (.iload 4, 2) := by decide +kernel
theorem dL_law_227 : decode cL_law 227 = .ok (.iconst 1, 1) := by decide +kernel
theorem dL_law_228 : decode cL_law 228 = .ok (.iadd, 1) := by decide +kernel
theorem dL_law_229 : decode cL_law 229 = .ok (.iaload, 1) := by decide +kernel
theorem dL_law_230 : decode cL_law 230 = .ok (.aload_n 0, 1) := by decide +kernel
theorem dL_law_231 : decode cL_law 231 = .ok (.iload 4, 2) := by decide +kernel
theorem dL_law_233 : decode cL_law 233 = .ok (.iconst 2, 1) := by decide +kernel
theorem dL_law_234 : decode cL_law 234 = .ok (.iadd, 1) := by decide +kernel
theorem dL_law_235 : decode cL_law 235 = .ok (.iaload, 1) := by decide +kernel
theorem dL_law_236 : decode cL_law 236 = .ok (.invokevirtual 82, 3) := by decide +kernel
theorem dL_law_239 : decode cL_law 239 = .ok (.istore 6, 2) := by decide +kernel
theorem dL_law_241 : decode cL_law 241 = .ok (.aload_n 2, 1) := by decide +kernel
theorem dL_law_242 : decode cL_law 242 = .ok (.invokevirtual 77, 3) := by decide +kernel
theorem dL_law_245 : decode cL_law 245 = .ok (.iload 5, 2) := by decide +kernel
theorem dL_law_247 : decode cL_law 247 = .ok (.if_icmp .eq 5, 3) := by decide +kernel
theorem dL_law_250 : decode cL_law 250 = .ok (.iconst 0, 1) := by decide +kernel
theorem dL_law_251 : decode cL_law 251 = .ok (.ireturn, 1) := by decide +kernel
theorem dL_law_252 : decode cL_law 252 = .ok (.iload 5, 2) := by decide +kernel
theorem dL_law_254 : decode cL_law 254 = .ok (.ifCond .ne 15, 3) := by decide +kernel
theorem dL_law_257 : decode cL_law 257 = .ok (.aload_n 3, 1) := by decide +kernel
theorem dL_law_258 : decode cL_law 258 = .ok (.iconst 0, 1) := by decide +kernel
theorem dL_law_259 : decode cL_law 259 = .ok (.laload, 1) := by decide +kernel
theorem dL_law_260 : decode cL_law 260 = .ok (.iload 6, 2) := by decide +kernel
theorem dL_law_262 : decode cL_law 262 = .ok (.i2l, 1) := by decide +kernel
theorem dL_law_263 : decode cL_law 263 = .ok (.lcmp, 1) := by decide +kernel
theorem dL_law_264 : decode cL_law 264 = .ok (.ifCond .eq 5, 3) := by decide +kernel
theorem dL_law_267 : decode cL_law 267 = .ok (.iconst 0, 1) := by decide +kernel
theorem dL_law_268 : decode cL_law 268 = .ok (.ireturn, 1) := by decide +kernel
theorem dL_law_269 : decode cL_law 269 = .ok (.goto 868, 3) := by decide +kernel
theorem dL_law_272 : decode cL_law 272 = .ok (.aload_n 1, 1) := by decide +kernel
theorem dL_law_273 : decode cL_law 273 = .ok (.aload_n 0, 1) := by decide +kernel
theorem dL_law_274 : decode cL_law 274 = .ok (.iload 4, 2) := by decide +kernel
theorem dL_law_276 : decode cL_law 276 = .ok (.iconst 1, 1) := by decide +kernel
theorem dL_law_277 : decode cL_law 277 = .ok (.iadd, 1) := by decide +kernel
theorem dL_law_278 : decode cL_law 278 = .ok (.iaload, 1) := by decide +kernel
theorem dL_law_279 : decode cL_law 279 = .ok (.aload_n 3, 1) := by decide +kernel
theorem dL_law_280 : decode cL_law 280 = .ok (.invokestatic 83, 3) := by decide +kernel
theorem dL_law_283 : decode cL_law 283 = .ok (.istore 5, 2) := by decide +kernel
theorem dL_law_285 : decode cL_law 285 = .ok (.aload_n 2, 1) := by decide +kernel
theorem dL_law_286 : decode cL_law 286 = .ok (.aload_n 0, 1) := by decide +kernel
theorem dL_law_287 : decode cL_law 287 = .ok (.iload 4, 2) := by decide +kernel
theorem dL_law_289 : decode cL_law 289 = .ok (.iconst 1, 1) := by decide +kernel
theorem dL_law_290 : decode cL_law 290 = .ok (.iadd, 1) := by decide +kernel
theorem dL_law_291 : decode cL_law 291 = .ok (.iaload, 1) := by decide +kernel
theorem dL_law_292 : decode cL_law 292 = .ok (.invokevirtual 86, 3) := by decide +kernel
theorem dL_law_295 : decode cL_law 295 = .ok (.istore 6, 2) := by decide +kernel
theorem dL_law_297 : decode cL_law 297 = .ok (.aload_n 2, 1) := by decide +kernel
theorem dL_law_298 : decode cL_law 298 = .ok (.invokevirtual 77, 3) := by decide +kernel
theorem dL_law_301 : decode cL_law 301 = .ok (.iload 5, 2) := by decide +kernel
theorem dL_law_303 : decode cL_law 303 = .ok (.if_icmp .eq 5, 3) := by decide +kernel
theorem dL_law_306 : decode cL_law 306 = .ok (.iconst 0, 1) := by decide +kernel
theorem dL_law_307 : decode cL_law 307 = .ok (.ireturn, 1) := by decide +kernel
theorem dL_law_308 : decode cL_law 308 = .ok (.iload 5, 2) := by decide +kernel
theorem dL_law_310 : decode cL_law 310 = .ok (.ifCond .ne 15, 3) := by decide +kernel
theorem dL_law_313 : decode cL_law 313 = .ok (.aload_n 3, 1) := by decide +kernel
theorem dL_law_314 : decode cL_law 314 = .ok (.iconst 0, 1) := by decide +kernel
theorem dL_law_315 : decode cL_law 315 = .ok (.laload, 1) := by decide +kernel
theorem dL_law_316 : decode cL_law 316 = .ok (.iload 6, 2) := by decide +kernel
theorem dL_law_318 : decode cL_law 318 = .ok (.i2l, 1) := by decide +kernel
theorem dL_law_319 : decode cL_law 319 = .ok (.lcmp, 1) := by decide +kernel
theorem dL_law_320 : decode cL_law 320 = .ok (.ifCond .eq 5, 3) := by decide +kernel
theorem dL_law_323 : decode cL_law 323 = .ok (.iconst 0, 1) := by decide +kernel
theorem dL_law_324 : decode cL_law 324 = .ok (.ireturn, 1) := by decide +kernel
theorem dL_law_325 : decode cL_law 325 = .ok (.goto 812, 3) := by decide +kernel
theorem dL_law_328 : decode cL_law 328 = .ok (.aload_n 1, 1) := by decide +kernel
theorem dL_law_329 : decode cL_law 329 = .ok (.aload_n 0, 1) := by decide +kernel
theorem dL_law_330 : decode cL_law 330 = .ok (.iload 4, 2) := by decide +kernel
theorem dL_law_332 : decode cL_law 332 = .ok (.iconst 1, 1) := by decide +kernel
theorem dL_law_333 : decode cL_law 333 = .ok (.iadd, 1) := by decide +kernel
theorem dL_law_334 : decode cL_law 334 = .ok (.iaload, 1) := by decide +kernel
theorem dL_law_335 : decode cL_law 335 = .ok (.aload_n 0, 1) := by decide +kernel
theorem dL_law_336 : decode cL_law 336 = .ok (.iload 4, 2) := by decide +kernel
theorem dL_law_338 : decode cL_law 338 = .ok (.iconst 2, 1) := by decide +kernel
theorem dL_law_339 : decode cL_law 339 = .ok (.iadd, 1) := by decide +kernel
theorem dL_law_340 : decode cL_law 340 = .ok (.iaload, 1) := by decide +kernel
theorem dL_law_341 : decode cL_law 341 = .ok (.aload_n 3, 1) := by decide +kernel
theorem dL_law_342 : decode cL_law 342 = .ok (.invokestatic 87, 3) := by decide +kernel
theorem dL_law_345 : decode cL_law 345 = .ok (.istore 5, 2) := by decide +kernel
theorem dL_law_347 : decode cL_law 347 = .ok (.aload_n 2, 1) := by decide +kernel
theorem dL_law_348 : decode cL_law 348 = .ok (.aload_n 0, 1) := by decide +kernel
theorem dL_law_349 : decode cL_law 349 = .ok (.iload 4, 2) := by decide +kernel
theorem dL_law_351 : decode cL_law 351 = .ok (.iconst 1, 1) := by decide +kernel
theorem dL_law_352 : decode cL_law 352 = .ok (.iadd, 1) := by decide +kernel
theorem dL_law_353 : decode cL_law 353 = .ok (.iaload, 1) := by decide +kernel
theorem dL_law_354 : decode cL_law 354 = .ok (.aload_n 0, 1) := by decide +kernel
theorem dL_law_355 : decode cL_law 355 = .ok (.iload 4, 2) := by decide +kernel
theorem dL_law_357 : decode cL_law 357 = .ok (.iconst 2, 1) := by decide +kernel
theorem dL_law_358 : decode cL_law 358 = .ok (.iadd, 1) := by decide +kernel
theorem dL_law_359 : decode cL_law 359 = .ok (.iaload, 1) := by decide +kernel
theorem dL_law_360 : decode cL_law 360 = .ok (.invokevirtual 89, 3) := by decide +kernel
theorem dL_law_363 : decode cL_law 363 = .ok (.istore 6, 2) := by decide +kernel
theorem dL_law_365 : decode cL_law 365 = .ok (.aload_n 2, 1) := by decide +kernel
theorem dL_law_366 : decode cL_law 366 = .ok (.invokevirtual 77, 3) := by decide +kernel
theorem dL_law_369 : decode cL_law 369 = .ok (.iload 5, 2) := by decide +kernel
theorem dL_law_371 : decode cL_law 371 = .ok (.if_icmp .eq 5, 3) := by decide +kernel
theorem dL_law_374 : decode cL_law 374 = .ok (.iconst 0, 1) := by decide +kernel
theorem dL_law_375 : decode cL_law 375 = .ok (.ireturn, 1) := by decide +kernel
theorem dL_law_376 : decode cL_law 376 = .ok (.iload 5, 2) := by decide +kernel
theorem dL_law_378 : decode cL_law 378 = .ok (.ifCond .ne 15, 3) := by decide +kernel
theorem dL_law_381 : decode cL_law 381 = .ok (.aload_n 3, 1) := by decide +kernel
theorem dL_law_382 : decode cL_law 382 = .ok (.iconst 0, 1) := by decide +kernel
theorem dL_law_383 : decode cL_law 383 = .ok (.laload, 1) := by decide +kernel
theorem dL_law_384 : decode cL_law 384 = .ok (.iload 6, 2) := by decide +kernel
theorem dL_law_386 : decode cL_law 386 = .ok (.i2l, 1) := by decide +kernel
theorem dL_law_387 : decode cL_law 387 = .ok (.lcmp, 1) := by decide +kernel
theorem dL_law_388 : decode cL_law 388 = .ok (.ifCond .eq 5, 3) := by decide +kernel
theorem dL_law_391 : decode cL_law 391 = .ok (.iconst 0, 1) := by decide +kernel
theorem dL_law_392 : decode cL_law 392 = .ok (.ireturn, 1) := by decide +kernel
theorem dL_law_393 : decode cL_law 393 = .ok (.goto 744, 3) := by decide +kernel
theorem dL_law_396 : decode cL_law 396 = .ok (.aload_n 1, 1) := by decide +kernel
theorem dL_law_397 : decode cL_law 397 = .ok (.aload_n 0, 1) := by decide +kernel
theorem dL_law_398 : decode cL_law 398 = .ok (.iload 4, 2) := by decide +kernel
theorem dL_law_400 : decode cL_law 400 = .ok (.iconst 1, 1) := by decide +kernel
theorem dL_law_401 : decode cL_law 401 = .ok (.iadd, 1) := by decide +kernel
theorem dL_law_402 : decode cL_law 402 = .ok (.iaload, 1) := by decide +kernel
theorem dL_law_403 : decode cL_law 403 = .ok (.aload_n 3, 1) := by decide +kernel
theorem dL_law_404 : decode cL_law 404 = .ok (.invokestatic 90, 3) := by decide +kernel
theorem dL_law_407 : decode cL_law 407 = .ok (.istore 5, 2) := by decide +kernel
theorem dL_law_409 : decode cL_law 409 = .ok (.aload_n 2, 1) := by decide +kernel
theorem dL_law_410 : decode cL_law 410 = .ok (.aload_n 0, 1) := by decide +kernel
theorem dL_law_411 : decode cL_law 411 = .ok (.iload 4, 2) := by decide +kernel
theorem dL_law_413 : decode cL_law 413 = .ok (.iconst 1, 1) := by decide +kernel
theorem dL_law_414 : decode cL_law 414 = .ok (.iadd, 1) := by decide +kernel
theorem dL_law_415 : decode cL_law 415 = .ok (.iaload, 1) := by decide +kernel
theorem dL_law_416 : decode cL_law 416 = .ok (.invokevirtual 92, 3) := by decide +kernel
theorem dL_law_419 : decode cL_law 419 = .ok (.istore 6, 2) := by decide +kernel
theorem dL_law_421 : decode cL_law 421 = .ok (.aload_n 2, 1) := by decide +kernel
theorem dL_law_422 : decode cL_law 422 = .ok (.invokevirtual 77, 3) := by decide +kernel
theorem dL_law_425 : decode cL_law 425 = .ok (.iload 5, 2) := by decide +kernel
theorem dL_law_427 : decode cL_law 427 = .ok (.if_icmp .eq 5, 3) := by decide +kernel
theorem dL_law_430 : decode cL_law 430 = .ok (.iconst 0, 1) := by decide +kernel
theorem dL_law_431 : decode cL_law 431 = .ok (.ireturn, 1) := by decide +kernel
theorem dL_law_432 : decode cL_law 432 = .ok (.iload 5, 2) := by decide +kernel
theorem dL_law_434 : decode cL_law 434 = .ok (.ifCond .ne 15, 3) := by decide +kernel
theorem dL_law_437 : decode cL_law 437 = .ok (.aload_n 3, 1) := by decide +kernel
theorem dL_law_438 : decode cL_law 438 = .ok (.iconst 0, 1) := by decide +kernel
theorem dL_law_439 : decode cL_law 439 = .ok (.laload, 1) := by decide +kernel
theorem dL_law_440 : decode cL_law 440 = .ok (.iload 6, 2) := by decide +kernel
theorem dL_law_442 : decode cL_law 442 = .ok (.i2l, 1) := by decide +kernel
theorem dL_law_443 : decode cL_law 443 = .ok (.lcmp, 1) := by decide +kernel
theorem dL_law_444 : decode cL_law 444 = .ok (.ifCond .eq 5, 3) := by decide +kernel
theorem dL_law_447 : decode cL_law 447 = .ok (.iconst 0, 1) := by decide +kernel
theorem dL_law_448 : decode cL_law 448 = .ok (.ireturn, 1) := by decide +kernel
theorem dL_law_449 : decode cL_law 449 = .ok (.goto 688, 3) := by decide +kernel
theorem dL_law_452 : decode cL_law 452 = .ok (.aload_n 1, 1) := by decide +kernel
theorem dL_law_453 : decode cL_law 453 = .ok (.aload_n 0, 1) := by decide +kernel
theorem dL_law_454 : decode cL_law 454 = .ok (.iload 4, 2) := by decide +kernel
theorem dL_law_456 : decode cL_law 456 = .ok (.iconst 1, 1) := by decide +kernel
theorem dL_law_457 : decode cL_law 457 = .ok (.iadd, 1) := by decide +kernel
theorem dL_law_458 : decode cL_law 458 = .ok (.iaload, 1) := by decide +kernel
theorem dL_law_459 : decode cL_law 459 = .ok (.aload_n 3, 1) := by decide +kernel
theorem dL_law_460 : decode cL_law 460 = .ok (.invokestatic 93, 3) := by decide +kernel
theorem dL_law_463 : decode cL_law 463 = .ok (.istore 5, 2) := by decide +kernel
theorem dL_law_465 : decode cL_law 465 = .ok (.aload_n 2, 1) := by decide +kernel
theorem dL_law_466 : decode cL_law 466 = .ok (.aload_n 0, 1) := by decide +kernel
theorem dL_law_467 : decode cL_law 467 = .ok (.iload 4, 2) := by decide +kernel
theorem dL_law_469 : decode cL_law 469 = .ok (.iconst 1, 1) := by decide +kernel
theorem dL_law_470 : decode cL_law 470 = .ok (.iadd, 1) := by decide +kernel
theorem dL_law_471 : decode cL_law 471 = .ok (.iaload, 1) := by decide +kernel
theorem dL_law_472 : decode cL_law 472 = .ok (.invokevirtual 95, 3) := by decide +kernel
theorem dL_law_475 : decode cL_law 475 = .ok (.istore 6, 2) := by decide +kernel
theorem dL_law_477 : decode cL_law 477 = .ok (.aload_n 2, 1) := by decide +kernel
theorem dL_law_478 : decode cL_law 478 = .ok (.invokevirtual 77, 3) := by decide +kernel
theorem dL_law_481 : decode cL_law 481 = .ok (.iload 5, 2) := by decide +kernel
theorem dL_law_483 : decode cL_law 483 = .ok (.if_icmp .eq 5, 3) := by decide +kernel
theorem dL_law_486 : decode cL_law 486 = .ok (.iconst 0, 1) := by decide +kernel
theorem dL_law_487 : decode cL_law 487 = .ok (.ireturn, 1) := by decide +kernel
theorem dL_law_488 : decode cL_law 488 = .ok (.iload 5, 2) := by decide +kernel
theorem dL_law_490 : decode cL_law 490 = .ok (.ifCond .ne 15, 3) := by decide +kernel
theorem dL_law_493 : decode cL_law 493 = .ok (.aload_n 3, 1) := by decide +kernel
theorem dL_law_494 : decode cL_law 494 = .ok (.iconst 0, 1) := by decide +kernel
theorem dL_law_495 : decode cL_law 495 = .ok (.laload, 1) := by decide +kernel
theorem dL_law_496 : decode cL_law 496 = .ok (.iload 6, 2) := by decide +kernel
theorem dL_law_498 : decode cL_law 498 = .ok (.i2l, 1) := by decide +kernel
theorem dL_law_499 : decode cL_law 499 = .ok (.lcmp, 1) := by decide +kernel
theorem dL_law_500 : decode cL_law 500 = .ok (.ifCond .eq 5, 3) := by decide +kernel
theorem dL_law_503 : decode cL_law 503 = .ok (.iconst 0, 1) := by decide +kernel
theorem dL_law_504 : decode cL_law 504 = .ok (.ireturn, 1) := by decide +kernel
theorem dL_law_505 : decode cL_law 505 = .ok (.goto 632, 3) := by decide +kernel
theorem dL_law_508 : decode cL_law 508 = .ok (.aload_n 1, 1) := by decide +kernel
theorem dL_law_509 : decode cL_law 509 = .ok (.aload_n 0, 1) := by decide +kernel
theorem dL_law_510 : decode cL_law 510 = .ok (.iload 4, 2) := by decide +kernel
theorem dL_law_512 : decode cL_law 512 = .ok (.iconst 1, 1) := by decide +kernel
theorem dL_law_513 : decode cL_law 513 = .ok (.iadd, 1) := by decide +kernel
theorem dL_law_514 : decode cL_law 514 = .ok (.iaload, 1) := by decide +kernel
theorem dL_law_515 : decode cL_law 515 = .ok (.aload_n 0, 1) := by decide +kernel
theorem dL_law_516 : decode cL_law 516 = .ok (.iload 4, 2) := by decide +kernel
theorem dL_law_518 : decode cL_law 518 = .ok (.iconst 2, 1) := by decide +kernel
theorem dL_law_519 : decode cL_law 519 = .ok (.iadd, 1) := by decide +kernel
theorem dL_law_520 : decode cL_law 520 = .ok (.iaload, 1) := by decide +kernel
theorem dL_law_521 : decode cL_law 521 = .ok (.aload_n 3, 1) := by decide +kernel
theorem dL_law_522 : decode cL_law 522 = .ok (.invokestatic 96, 3) := by decide +kernel
theorem dL_law_525 : decode cL_law 525 = .ok (.istore 5, 2) := by decide +kernel
theorem dL_law_527 : decode cL_law 527 = .ok (.aload_n 2, 1) := by decide +kernel
theorem dL_law_528 : decode cL_law 528 = .ok (.aload_n 0, 1) := by decide +kernel
theorem dL_law_529 : decode cL_law 529 = .ok (.iload 4, 2) := by decide +kernel
theorem dL_law_531 : decode cL_law 531 = .ok (.iconst 1, 1) := by decide +kernel
theorem dL_law_532 : decode cL_law 532 = .ok (.iadd, 1) := by decide +kernel
theorem dL_law_533 : decode cL_law 533 = .ok (.iaload, 1) := by decide +kernel
theorem dL_law_534 : decode cL_law 534 = .ok (.aload_n 0, 1) := by decide +kernel
theorem dL_law_535 : decode cL_law 535 = .ok (.iload 4, 2) := by decide +kernel
theorem dL_law_537 : decode cL_law 537 = .ok (.iconst 2, 1) := by decide +kernel
theorem dL_law_538 : decode cL_law 538 = .ok (.iadd, 1) := by decide +kernel
theorem dL_law_539 : decode cL_law 539 = .ok (.iaload, 1) := by decide +kernel
theorem dL_law_540 : decode cL_law 540 = .ok (.invokevirtual 98, 3) := by decide +kernel
theorem dL_law_543 : decode cL_law 543 = .ok (.istore 6, 2) := by decide +kernel
theorem dL_law_545 : decode cL_law 545 = .ok (.aload_n 2, 1) := by decide +kernel
theorem dL_law_546 : decode cL_law 546 = .ok (.invokevirtual 77, 3) := by decide +kernel
theorem dL_law_549 : decode cL_law 549 = .ok (.iload 5, 2) := by decide +kernel
theorem dL_law_551 : decode cL_law 551 = .ok (.if_icmp .eq 5, 3) := by decide +kernel
theorem dL_law_554 : decode cL_law 554 = .ok (.iconst 0, 1) := by decide +kernel
theorem dL_law_555 : decode cL_law 555 = .ok (.ireturn, 1) := by decide +kernel
theorem dL_law_556 : decode cL_law 556 = .ok (.iload 5, 2) := by decide +kernel
theorem dL_law_558 : decode cL_law 558 = .ok (.ifCond .ne 15, 3) := by decide +kernel
theorem dL_law_561 : decode cL_law 561 = .ok (.aload_n 3, 1) := by decide +kernel
theorem dL_law_562 : decode cL_law 562 = .ok (.iconst 0, 1) := by decide +kernel
theorem dL_law_563 : decode cL_law 563 = .ok (.laload, 1) := by decide +kernel
theorem dL_law_564 : decode cL_law 564 = .ok (.iload 6, 2) := by decide +kernel
theorem dL_law_566 : decode cL_law 566 = .ok (.i2l, 1) := by decide +kernel
theorem dL_law_567 : decode cL_law 567 = .ok (.lcmp, 1) := by decide +kernel
theorem dL_law_568 : decode cL_law 568 = .ok (.ifCond .eq 5, 3) := by decide +kernel
theorem dL_law_571 : decode cL_law 571 = .ok (.iconst 0, 1) := by decide +kernel
theorem dL_law_572 : decode cL_law 572 = .ok (.ireturn, 1) := by decide +kernel
theorem dL_law_573 : decode cL_law 573 = .ok (.goto 564, 3) := by decide +kernel
theorem dL_law_576 : decode cL_law 576 = .ok (.aload_n 1, 1) := by decide +kernel
theorem dL_law_577 : decode cL_law 577 = .ok (.invokevirtual 99, 3) := by decide +kernel
theorem dL_law_580 : decode cL_law 580 = .ok (.aload_n 2, 1) := by decide +kernel
theorem dL_law_581 : decode cL_law 581 = .ok (.invokevirtual 102, 3) := by decide +kernel
theorem dL_law_584 : decode cL_law 584 = .ok (.if_icmp .eq 553, 3) := by decide +kernel
theorem dL_law_587 : decode cL_law 587 = .ok (.iconst 0, 1) := by decide +kernel
theorem dL_law_588 : decode cL_law 588 = .ok (.ireturn, 1) := by decide +kernel
theorem dL_law_589 : decode cL_law 589 = .ok (.aload_n 1, 1) := by decide +kernel
theorem dL_law_590 : decode cL_law 590 = .ok (.invokevirtual 103, 3) := by decide +kernel
theorem dL_law_593 : decode cL_law 593 = .ok (.aload_n 2, 1) := by decide +kernel
theorem dL_law_594 : decode cL_law 594 = .ok (.invokevirtual 106, 3) := by decide +kernel
theorem dL_law_597 : decode cL_law 597 = .ok (.if_icmp .eq 540, 3) := by decide +kernel
theorem dL_law_600 : decode cL_law 600 = .ok (.iconst 0, 1) := by decide +kernel
theorem dL_law_601 : decode cL_law 601 = .ok (.ireturn, 1) := by decide +kernel
theorem dL_law_602 : decode cL_law 602 = .ok (.aload_n 1, 1) := by decide +kernel
theorem dL_law_603 : decode cL_law 603 = .ok (.invokevirtual 107, 3) := by decide +kernel
theorem dL_law_606 : decode cL_law 606 = .ok (.aload_n 2, 1) := by decide +kernel
theorem dL_law_607 : decode cL_law 607 = .ok (.invokevirtual 110, 3) := by decide +kernel
theorem dL_law_610 : decode cL_law 610 = .ok (.if_icmp .eq 527, 3) := by decide +kernel
theorem dL_law_613 : decode cL_law 613 = .ok (.iconst 0, 1) := by decide +kernel
theorem dL_law_614 : decode cL_law 614 = .ok (.ireturn, 1) := by decide +kernel
theorem dL_law_615 : decode cL_law 615 = .ok (.aload_n 1, 1) := by decide +kernel
theorem dL_law_616 : decode cL_law 616 = .ok (.aload_n 0, 1) := by decide +kernel
theorem dL_law_617 : decode cL_law 617 = .ok (.iload 4, 2) := by decide +kernel
theorem dL_law_619 : decode cL_law 619 = .ok (.iconst 1, 1) := by decide +kernel
theorem dL_law_620 : decode cL_law 620 = .ok (.iadd, 1) := by decide +kernel
theorem dL_law_621 : decode cL_law 621 = .ok (.iaload, 1) := by decide +kernel
theorem dL_law_622 : decode cL_law 622 = .ok (.aload_n 3, 1) := by decide +kernel
theorem dL_law_623 : decode cL_law 623 = .ok (.invokestatic 111, 3) := by decide +kernel
theorem dL_law_626 : decode cL_law 626 = .ok (.istore 5, 2) := by decide +kernel
theorem dL_law_628 : decode cL_law 628 = .ok (.aload_n 2, 1) := by decide +kernel
theorem dL_law_629 : decode cL_law 629 = .ok (.aload_n 0, 1) := by decide +kernel
theorem dL_law_630 : decode cL_law 630 = .ok (.iload 4, 2) := by decide +kernel
theorem dL_law_632 : decode cL_law 632 = .ok (.iconst 1, 1) := by decide +kernel
theorem dL_law_633 : decode cL_law 633 = .ok (.iadd, 1) := by decide +kernel
theorem dL_law_634 : decode cL_law 634 = .ok (.iaload, 1) := by decide +kernel
theorem dL_law_635 : decode cL_law 635 = .ok (.invokevirtual 113, 3) := by decide +kernel
theorem dL_law_638 : decode cL_law 638 = .ok (.istore 6, 2) := by decide +kernel
theorem dL_law_640 : decode cL_law 640 = .ok (.aload_n 2, 1) := by decide +kernel
theorem dL_law_641 : decode cL_law 641 = .ok (.invokevirtual 77, 3) := by decide +kernel
theorem dL_law_644 : decode cL_law 644 = .ok (.iload 5, 2) := by decide +kernel
theorem dL_law_646 : decode cL_law 646 = .ok (.if_icmp .eq 5, 3) := by decide +kernel
theorem dL_law_649 : decode cL_law 649 = .ok (.iconst 0, 1) := by decide +kernel
theorem dL_law_650 : decode cL_law 650 = .ok (.ireturn, 1) := by decide +kernel
theorem dL_law_651 : decode cL_law 651 = .ok (.iload 5, 2) := by decide +kernel
theorem dL_law_653 : decode cL_law 653 = .ok (.ifCond .ne 15, 3) := by decide +kernel
theorem dL_law_656 : decode cL_law 656 = .ok (.aload_n 3, 1) := by decide +kernel
theorem dL_law_657 : decode cL_law 657 = .ok (.iconst 0, 1) := by decide +kernel
theorem dL_law_658 : decode cL_law 658 = .ok (.laload, 1) := by decide +kernel
theorem dL_law_659 : decode cL_law 659 = .ok (.iload 6, 2) := by decide +kernel
theorem dL_law_661 : decode cL_law 661 = .ok (.i2l, 1) := by decide +kernel
theorem dL_law_662 : decode cL_law 662 = .ok (.lcmp, 1) := by decide +kernel
theorem dL_law_663 : decode cL_law 663 = .ok (.ifCond .eq 5, 3) := by decide +kernel
theorem dL_law_666 : decode cL_law 666 = .ok (.iconst 0, 1) := by decide +kernel
theorem dL_law_667 : decode cL_law 667 = .ok (.ireturn, 1) := by decide +kernel
theorem dL_law_668 : decode cL_law 668 = .ok (.goto 469, 3) := by decide +kernel
theorem dL_law_671 : decode cL_law 671 = .ok (.aload_n 1, 1) := by decide +kernel
theorem dL_law_672 : decode cL_law 672 = .ok (.aload_n 0, 1) := by decide +kernel
theorem dL_law_673 : decode cL_law 673 = .ok (.iload 4, 2) := by decide +kernel
theorem dL_law_675 : decode cL_law 675 = .ok (.iconst 1, 1) := by decide +kernel
theorem dL_law_676 : decode cL_law 676 = .ok (.iadd, 1) := by decide +kernel
theorem dL_law_677 : decode cL_law 677 = .ok (.iaload, 1) := by decide +kernel
theorem dL_law_678 : decode cL_law 678 = .ok (.aload_n 3, 1) := by decide +kernel
theorem dL_law_679 : decode cL_law 679 = .ok (.invokestatic 114, 3) := by decide +kernel
theorem dL_law_682 : decode cL_law 682 = .ok (.istore 5, 2) := by decide +kernel
theorem dL_law_684 : decode cL_law 684 = .ok (.aload_n 2, 1) := by decide +kernel
theorem dL_law_685 : decode cL_law 685 = .ok (.aload_n 0, 1) := by decide +kernel
theorem dL_law_686 : decode cL_law 686 = .ok (.iload 4, 2) := by decide +kernel
theorem dL_law_688 : decode cL_law 688 = .ok (.iconst 1, 1) := by decide +kernel
theorem dL_law_689 : decode cL_law 689 = .ok (.iadd, 1) := by decide +kernel
theorem dL_law_690 : decode cL_law 690 = .ok (.iaload, 1) := by decide +kernel
theorem dL_law_691 : decode cL_law 691 = .ok (.invokevirtual 116, 3) := by decide +kernel
theorem dL_law_694 : decode cL_law 694 = .ok (.istore 6, 2) := by decide +kernel
theorem dL_law_696 : decode cL_law 696 = .ok (.aload_n 2, 1) := by decide +kernel
theorem dL_law_697 : decode cL_law 697 = .ok (.invokevirtual 77, 3) := by decide +kernel
theorem dL_law_700 : decode cL_law 700 = .ok (.iload 5, 2) := by decide +kernel
theorem dL_law_702 : decode cL_law 702 = .ok (.if_icmp .eq 5, 3) := by decide +kernel
theorem dL_law_705 : decode cL_law 705 = .ok (.iconst 0, 1) := by decide +kernel
theorem dL_law_706 : decode cL_law 706 = .ok (.ireturn, 1) := by decide +kernel
theorem dL_law_707 : decode cL_law 707 = .ok (.iload 5, 2) := by decide +kernel
theorem dL_law_709 : decode cL_law 709 = .ok (.ifCond .ne 15, 3) := by decide +kernel
theorem dL_law_712 : decode cL_law 712 = .ok (.aload_n 3, 1) := by decide +kernel
theorem dL_law_713 : decode cL_law 713 = .ok (.iconst 0, 1) := by decide +kernel
theorem dL_law_714 : decode cL_law 714 = .ok (.laload, 1) := by decide +kernel
theorem dL_law_715 : decode cL_law 715 = .ok (.iload 6, 2) := by decide +kernel
theorem dL_law_717 : decode cL_law 717 = .ok (.i2l, 1) := by decide +kernel
theorem dL_law_718 : decode cL_law 718 = .ok (.lcmp, 1) := by decide +kernel
theorem dL_law_719 : decode cL_law 719 = .ok (.ifCond .eq 5, 3) := by decide +kernel
theorem dL_law_722 : decode cL_law 722 = .ok (.iconst 0, 1) := by decide +kernel
theorem dL_law_723 : decode cL_law 723 = .ok (.ireturn, 1) := by decide +kernel
theorem dL_law_724 : decode cL_law 724 = .ok (.goto 413, 3) := by decide +kernel
theorem dL_law_727 : decode cL_law 727 = .ok (.aload_n 1, 1) := by decide +kernel
theorem dL_law_728 : decode cL_law 728 = .ok (.aload_n 0, 1) := by decide +kernel
theorem dL_law_729 : decode cL_law 729 = .ok (.iload 4, 2) := by decide +kernel
theorem dL_law_731 : decode cL_law 731 = .ok (.iconst 1, 1) := by decide +kernel
theorem dL_law_732 : decode cL_law 732 = .ok (.iadd, 1) := by decide +kernel
theorem dL_law_733 : decode cL_law 733 = .ok (.iaload, 1) := by decide +kernel
theorem dL_law_734 : decode cL_law 734 = .ok (.aload_n 3, 1) := by decide +kernel
theorem dL_law_735 : decode cL_law 735 = .ok (.invokestatic 117, 3) := by decide +kernel
theorem dL_law_738 : decode cL_law 738 = .ok (.istore 5, 2) := by decide +kernel
theorem dL_law_740 : decode cL_law 740 = .ok (.aload_n 2, 1) := by decide +kernel
theorem dL_law_741 : decode cL_law 741 = .ok (.aload_n 0, 1) := by decide +kernel
theorem dL_law_742 : decode cL_law 742 = .ok (.iload 4, 2) := by decide +kernel
theorem dL_law_744 : decode cL_law 744 = .ok (.iconst 1, 1) := by decide +kernel
theorem dL_law_745 : decode cL_law 745 = .ok (.iadd, 1) := by decide +kernel
theorem dL_law_746 : decode cL_law 746 = .ok (.iaload, 1) := by decide +kernel
theorem dL_law_747 : decode cL_law 747 = .ok (.invokevirtual 119, 3) := by decide +kernel
theorem dL_law_750 : decode cL_law 750 = .ok (.istore 6, 2) := by decide +kernel
theorem dL_law_752 : decode cL_law 752 = .ok (.aload_n 2, 1) := by decide +kernel
theorem dL_law_753 : decode cL_law 753 = .ok (.invokevirtual 77, 3) := by decide +kernel
theorem dL_law_756 : decode cL_law 756 = .ok (.iload 5, 2) := by decide +kernel
theorem dL_law_758 : decode cL_law 758 = .ok (.if_icmp .eq 5, 3) := by decide +kernel
theorem dL_law_761 : decode cL_law 761 = .ok (.iconst 0, 1) := by decide +kernel
theorem dL_law_762 : decode cL_law 762 = .ok (.ireturn, 1) := by decide +kernel
theorem dL_law_763 : decode cL_law 763 = .ok (.iload 5, 2) := by decide +kernel
theorem dL_law_765 : decode cL_law 765 = .ok (.ifCond .ne 15, 3) := by decide +kernel
theorem dL_law_768 : decode cL_law 768 = .ok (.aload_n 3, 1) := by decide +kernel
theorem dL_law_769 : decode cL_law 769 = .ok (.iconst 0, 1) := by decide +kernel
theorem dL_law_770 : decode cL_law 770 = .ok (.laload, 1) := by decide +kernel
theorem dL_law_771 : decode cL_law 771 = .ok (.iload 6, 2) := by decide +kernel
theorem dL_law_773 : decode cL_law 773 = .ok (.i2l, 1) := by decide +kernel
theorem dL_law_774 : decode cL_law 774 = .ok (.lcmp, 1) := by decide +kernel
theorem dL_law_775 : decode cL_law 775 = .ok (.ifCond .eq 5, 3) := by decide +kernel
theorem dL_law_778 : decode cL_law 778 = .ok (.iconst 0, 1) := by decide +kernel
theorem dL_law_779 : decode cL_law 779 = .ok (.ireturn, 1) := by decide +kernel
theorem dL_law_780 : decode cL_law 780 = .ok (.goto 357, 3) := by decide +kernel
theorem dL_law_783 : decode cL_law 783 = .ok (.aload_n 1, 1) := by decide +kernel
theorem dL_law_784 : decode cL_law 784 = .ok (.aload_n 0, 1) := by decide +kernel
theorem dL_law_785 : decode cL_law 785 = .ok (.iload 4, 2) := by decide +kernel
theorem dL_law_787 : decode cL_law 787 = .ok (.iconst 1, 1) := by decide +kernel
theorem dL_law_788 : decode cL_law 788 = .ok (.iadd, 1) := by decide +kernel
theorem dL_law_789 : decode cL_law 789 = .ok (.iaload, 1) := by decide +kernel
theorem dL_law_790 : decode cL_law 790 = .ok (.aload_n 3, 1) := by decide +kernel
theorem dL_law_791 : decode cL_law 791 = .ok (.invokestatic 120, 3) := by decide +kernel
theorem dL_law_794 : decode cL_law 794 = .ok (.istore 5, 2) := by decide +kernel
theorem dL_law_796 : decode cL_law 796 = .ok (.aload_n 2, 1) := by decide +kernel
theorem dL_law_797 : decode cL_law 797 = .ok (.aload_n 0, 1) := by decide +kernel
theorem dL_law_798 : decode cL_law 798 = .ok (.iload 4, 2) := by decide +kernel
theorem dL_law_800 : decode cL_law 800 = .ok (.iconst 1, 1) := by decide +kernel
theorem dL_law_801 : decode cL_law 801 = .ok (.iadd, 1) := by decide +kernel
theorem dL_law_802 : decode cL_law 802 = .ok (.iaload, 1) := by decide +kernel
theorem dL_law_803 : decode cL_law 803 = .ok (.invokevirtual 122, 3) := by decide +kernel
theorem dL_law_806 : decode cL_law 806 = .ok (.istore 6, 2) := by decide +kernel
theorem dL_law_808 : decode cL_law 808 = .ok (.aload_n 2, 1) := by decide +kernel
theorem dL_law_809 : decode cL_law 809 = .ok (.invokevirtual 77, 3) := by decide +kernel
theorem dL_law_812 : decode cL_law 812 = .ok (.iload 5, 2) := by decide +kernel
theorem dL_law_814 : decode cL_law 814 = .ok (.if_icmp .eq 5, 3) := by decide +kernel
theorem dL_law_817 : decode cL_law 817 = .ok (.iconst 0, 1) := by decide +kernel
theorem dL_law_818 : decode cL_law 818 = .ok (.ireturn, 1) := by decide +kernel
theorem dL_law_819 : decode cL_law 819 = .ok (.iload 5, 2) := by decide +kernel
theorem dL_law_821 : decode cL_law 821 = .ok (.ifCond .ne 15, 3) := by decide +kernel
theorem dL_law_824 : decode cL_law 824 = .ok (.aload_n 3, 1) := by decide +kernel
theorem dL_law_825 : decode cL_law 825 = .ok (.iconst 0, 1) := by decide +kernel
theorem dL_law_826 : decode cL_law 826 = .ok (.laload, 1) := by decide +kernel
theorem dL_law_827 : decode cL_law 827 = .ok (.iload 6, 2) := by decide +kernel
theorem dL_law_829 : decode cL_law 829 = .ok (.i2l, 1) := by decide +kernel
theorem dL_law_830 : decode cL_law 830 = .ok (.lcmp, 1) := by decide +kernel
theorem dL_law_831 : decode cL_law 831 = .ok (.ifCond .eq 5, 3) := by decide +kernel
theorem dL_law_834 : decode cL_law 834 = .ok (.iconst 0, 1) := by decide +kernel
theorem dL_law_835 : decode cL_law 835 = .ok (.ireturn, 1) := by decide +kernel
theorem dL_law_836 : decode cL_law 836 = .ok (.goto 301, 3) := by decide +kernel
theorem dL_law_839 : decode cL_law 839 = .ok (.aload_n 1, 1) := by decide +kernel
theorem dL_law_840 : decode cL_law 840 = .ok (.aload_n 3, 1) := by decide +kernel
theorem dL_law_841 : decode cL_law 841 = .ok (.invokestatic 123, 3) := by decide +kernel
theorem dL_law_844 : decode cL_law 844 = .ok (.istore 5, 2) := by decide +kernel
theorem dL_law_846 : decode cL_law 846 = .ok (.aload_n 2, 1) := by decide +kernel
theorem dL_law_847 : decode cL_law 847 = .ok (.invokevirtual 126, 3) := by decide +kernel
theorem dL_law_850 : decode cL_law 850 = .ok (.istore 6, 2) := by decide +kernel
theorem dL_law_852 : decode cL_law 852 = .ok (.aload_n 2, 1) := by decide +kernel
theorem dL_law_853 : decode cL_law 853 = .ok (.invokevirtual 77, 3) := by decide +kernel
theorem dL_law_856 : decode cL_law 856 = .ok (.iload 5, 2) := by decide +kernel
theorem dL_law_858 : decode cL_law 858 = .ok (.if_icmp .eq 5, 3) := by decide +kernel
theorem dL_law_861 : decode cL_law 861 = .ok (.iconst 0, 1) := by decide +kernel
theorem dL_law_862 : decode cL_law 862 = .ok (.ireturn, 1) := by decide +kernel
theorem dL_law_863 : decode cL_law 863 = .ok (.iload 5, 2) := by decide +kernel
theorem dL_law_865 : decode cL_law 865 = .ok (.ifCond .ne 15, 3) := by decide +kernel
theorem dL_law_868 : decode cL_law 868 = .ok (.aload_n 3, 1) := by decide +kernel
theorem dL_law_869 : decode cL_law 869 = .ok (.iconst 0, 1) := by decide +kernel
theorem dL_law_870 : decode cL_law 870 = .ok (.laload, 1) := by decide +kernel
theorem dL_law_871 : decode cL_law 871 = .ok (.iload 6, 2) := by decide +kernel
theorem dL_law_873 : decode cL_law 873 = .ok (.i2l, 1) := by decide +kernel
theorem dL_law_874 : decode cL_law 874 = .ok (.lcmp, 1) := by decide +kernel
theorem dL_law_875 : decode cL_law 875 = .ok (.ifCond .eq 5, 3) := by decide +kernel
theorem dL_law_878 : decode cL_law 878 = .ok (.iconst 0, 1) := by decide +kernel
theorem dL_law_879 : decode cL_law 879 = .ok (.ireturn, 1) := by decide +kernel
theorem dL_law_880 : decode cL_law 880 = .ok (.goto 257, 3) := by decide +kernel
theorem dL_law_883 : decode cL_law 883 = .ok (.aload_n 1, 1) := by decide +kernel
theorem dL_law_884 : decode cL_law 884 = .ok (.aload_n 3, 1) := by decide +kernel
theorem dL_law_885 : decode cL_law 885 = .ok (.invokestatic 127, 3) := by decide +kernel
theorem dL_law_888 : decode cL_law 888 = .ok (.istore 5, 2) := by decide +kernel
theorem dL_law_890 : decode cL_law 890 = .ok (.aload_n 2, 1) := by decide +kernel
theorem dL_law_891 : decode cL_law 891 = .ok (.invokevirtual 129, 3) := by decide +kernel
theorem dL_law_894 : decode cL_law 894 = .ok (.istore 6, 2) := by decide +kernel
theorem dL_law_896 : decode cL_law 896 = .ok (.aload_n 2, 1) := by decide +kernel
theorem dL_law_897 : decode cL_law 897 = .ok (.invokevirtual 77, 3) := by decide +kernel
theorem dL_law_900 : decode cL_law 900 = .ok (.iload 5, 2) := by decide +kernel
theorem dL_law_902 : decode cL_law 902 = .ok (.if_icmp .eq 5, 3) := by decide +kernel
theorem dL_law_905 : decode cL_law 905 = .ok (.iconst 0, 1) := by decide +kernel
theorem dL_law_906 : decode cL_law 906 = .ok (.ireturn, 1) := by decide +kernel
theorem dL_law_907 : decode cL_law 907 = .ok (.iload 5, 2) := by decide +kernel
theorem dL_law_909 : decode cL_law 909 = .ok (.ifCond .ne 15, 3) := by decide +kernel
theorem dL_law_912 : decode cL_law 912 = .ok (.aload_n 3, 1) := by decide +kernel
theorem dL_law_913 : decode cL_law 913 = .ok (.iconst 0, 1) := by decide +kernel
theorem dL_law_914 : decode cL_law 914 = .ok (.laload, 1) := by decide +kernel
theorem dL_law_915 : decode cL_law 915 = .ok (.iload 6, 2) := by decide +kernel
theorem dL_law_917 : decode cL_law 917 = .ok (.i2l, 1) := by decide +kernel
theorem dL_law_918 : decode cL_law 918 = .ok (.lcmp, 1) := by decide +kernel
theorem dL_law_919 : decode cL_law 919 = .ok (.ifCond .eq 5, 3) := by decide +kernel
theorem dL_law_922 : decode cL_law 922 = .ok (.iconst 0, 1) := by decide +kernel
theorem dL_law_923 : decode cL_law 923 = .ok (.ireturn, 1) := by decide +kernel
theorem dL_law_924 : decode cL_law 924 = .ok (.goto 213, 3) := by decide +kernel
theorem dL_law_927 : decode cL_law 927 = .ok (.aload_n 1, 1) := by decide +kernel
theorem dL_law_928 : decode cL_law 928 = .ok (.invokevirtual 130, 3) := by decide +kernel
theorem dL_law_931 : decode cL_law 931 = .ok (.aload_n 2, 1) := by decide +kernel
theorem dL_law_932 : decode cL_law 932 = .ok (.invokevirtual 133, 3) := by decide +kernel
theorem dL_law_935 : decode cL_law 935 = .ok (.if_icmp .eq 202, 3) := by decide +kernel
theorem dL_law_938 : decode cL_law 938 = .ok (.iconst 0, 1) := by decide +kernel
theorem dL_law_939 : decode cL_law 939 = .ok (.ireturn, 1) := by decide +kernel
theorem dL_law_940 : decode cL_law 940 = .ok (.aload_n 1, 1) := by decide +kernel
theorem dL_law_941 : decode cL_law 941 = .ok (.invokevirtual 134, 3) := by decide +kernel
theorem dL_law_944 : decode cL_law 944 = .ok (.aload_n 2, 1) := by decide +kernel
theorem dL_law_945 : decode cL_law 945 = .ok (.invokevirtual 138, 3) := by decide +kernel
theorem dL_law_948 : decode cL_law 948 = .ok (.if_icmp .eq 189, 3) := by decide +kernel
theorem dL_law_951 : decode cL_law 951 = .ok (.iconst 0, 1) := by decide +kernel
theorem dL_law_952 : decode cL_law 952 = .ok (.ireturn, 1) := by decide +kernel
theorem dL_law_953 : decode cL_law 953 = .ok (.aload_n 1, 1) := by decide +kernel
theorem dL_law_954 : decode cL_law 954 = .ok (.aload_n 3, 1) := by decide +kernel
theorem dL_law_955 : decode cL_law 955 = .ok (.invokestatic 139, 3) := by decide +kernel
theorem dL_law_958 : decode cL_law 958 = .ok (.istore 5, 2) := by decide +kernel
theorem dL_law_960 : decode cL_law 960 = .ok (.aload_n 2, 1) := by decide +kernel
theorem dL_law_961 : decode cL_law 961 = .ok (.invokevirtual 141, 3) := by decide +kernel
theorem dL_law_964 : decode cL_law 964 = .ok (.istore 6, 2) := by decide +kernel
theorem dL_law_966 : decode cL_law 966 = .ok (.aload_n 2, 1) := by decide +kernel
theorem dL_law_967 : decode cL_law 967 = .ok (.invokevirtual 77, 3) := by decide +kernel
theorem dL_law_970 : decode cL_law 970 = .ok (.iload 5, 2) := by decide +kernel
theorem dL_law_972 : decode cL_law 972 = .ok (.if_icmp .eq 5, 3) := by decide +kernel
theorem dL_law_975 : decode cL_law 975 = .ok (.iconst 0, 1) := by decide +kernel
theorem dL_law_976 : decode cL_law 976 = .ok (.ireturn, 1) := by decide +kernel
theorem dL_law_977 : decode cL_law 977 = .ok (.iload 5, 2) := by decide +kernel
theorem dL_law_979 : decode cL_law 979 = .ok (.ifCond .ne 15, 3) := by decide +kernel
theorem dL_law_982 : decode cL_law 982 = .ok (.aload_n 3, 1) := by decide +kernel
theorem dL_law_983 : decode cL_law 983 = .ok (.iconst 0, 1) := by decide +kernel
theorem dL_law_984 : decode cL_law 984 = .ok (.laload, 1) := by decide +kernel
theorem dL_law_985 : decode cL_law 985 = .ok (.iload 6, 2) := by decide +kernel
theorem dL_law_987 : decode cL_law 987 = .ok (.i2l, 1) := by decide +kernel
theorem dL_law_988 : decode cL_law 988 = .ok (.lcmp, 1) := by decide +kernel
theorem dL_law_989 : decode cL_law 989 = .ok (.ifCond .eq 5, 3) := by decide +kernel
theorem dL_law_992 : decode cL_law 992 = .ok (.iconst 0, 1) := by decide +kernel
theorem dL_law_993 : decode cL_law 993 = .ok (.ireturn, 1) := by decide +kernel
theorem dL_law_994 : decode cL_law 994 = .ok (.goto 143, 3) := by decide +kernel
theorem dL_law_997 : decode cL_law 997 = .ok (.aload_n 1, 1) := by decide +kernel
theorem dL_law_998 : decode cL_law 998 = .ok (.aload_n 0, 1) := by decide +kernel
theorem dL_law_999 : decode cL_law 999 = .ok (.iload 4, 2) := by decide +kernel
theorem dL_law_1001 : decode cL_law 1001 = .ok (.iconst 1, 1) := by decide +kernel
theorem dL_law_1002 : decode cL_law 1002 = .ok (.iadd, 1) := by decide +kernel
theorem dL_law_1003 : decode cL_law 1003 = .ok (.iaload, 1) := by decide +kernel
theorem dL_law_1004 : decode cL_law 1004 = .ok (.aload_n 0, 1) := by decide +kernel
theorem dL_law_1005 : decode cL_law 1005 = .ok (.iload 4, 2) := by decide +kernel
theorem dL_law_1007 : decode cL_law 1007 = .ok (.iconst 2, 1) := by decide +kernel
theorem dL_law_1008 : decode cL_law 1008 = .ok (.iadd, 1) := by decide +kernel
theorem dL_law_1009 : decode cL_law 1009 = .ok (.iaload, 1) := by decide +kernel
theorem dL_law_1010 : decode cL_law 1010 = .ok (.aload_n 3, 1) := by decide +kernel
theorem dL_law_1011 : decode cL_law 1011 = .ok (.invokestatic 142, 3) := by decide +kernel
theorem dL_law_1014 : decode cL_law 1014 = .ok (.istore 5, 2) := by decide +kernel
theorem dL_law_1016 : decode cL_law 1016 = .ok (.aload_n 2, 1) := by decide +kernel
theorem dL_law_1017 : decode cL_law 1017 = .ok (.aload_n 0, 1) := by decide +kernel
theorem dL_law_1018 : decode cL_law 1018 = .ok (.iload 4, 2) := by decide +kernel
theorem dL_law_1020 : decode cL_law 1020 = .ok (.iconst 1, 1) := by decide +kernel
theorem dL_law_1021 : decode cL_law 1021 = .ok (.iadd, 1) := by decide +kernel
theorem dL_law_1022 : decode cL_law 1022 = .ok (.iaload, 1) := by decide +kernel
theorem dL_law_1023 : decode cL_law 1023 = .ok (.aload_n 0, 1) := by decide +kernel
theorem dL_law_1024 : decode cL_law 1024 = .ok (.iload 4, 2) := by decide +kernel
theorem dL_law_1026 : decode cL_law 1026 = .ok (.iconst 2, 1) := by decide +kernel
theorem dL_law_1027 : decode cL_law 1027 = .ok (.iadd, 1) := by decide +kernel
theorem dL_law_1028 : decode cL_law 1028 = .ok (.iaload, 1) := by decide +kernel
theorem dL_law_1029 : decode cL_law 1029 = .ok (.invokevirtual 144, 3) := by decide +kernel
theorem dL_law_1032 : decode cL_law 1032 = .ok (.istore 6, 2) := by decide +kernel
theorem dL_law_1034 : decode cL_law 1034 = .ok (.aload_n 2, 1) := by decide +kernel
theorem dL_law_1035 : decode cL_law 1035 = .ok (.invokevirtual 77, 3) := by decide +kernel
theorem dL_law_1038 : decode cL_law 1038 = .ok (.iload 5, 2) := by decide +kernel
theorem dL_law_1040 : decode cL_law 1040 = .ok (.if_icmp .eq 5, 3) := by decide +kernel
theorem dL_law_1043 : decode cL_law 1043 = .ok (.iconst 0, 1) := by decide +kernel
theorem dL_law_1044 : decode cL_law 1044 = .ok (.ireturn, 1) := by decide +kernel
theorem dL_law_1045 : decode cL_law 1045 = .ok (.iload 5, 2) := by decide +kernel
theorem dL_law_1047 : decode cL_law 1047 = .ok (.ifCond .ne 15, 3) := by decide +kernel
theorem dL_law_1050 : decode cL_law 1050 = .ok (.aload_n 3, 1) := by decide +kernel
theorem dL_law_1051 : decode cL_law 1051 = .ok (.iconst 0, 1) := by decide +kernel
theorem dL_law_1052 : decode cL_law 1052 = .ok (.laload, 1) := by decide +kernel
theorem dL_law_1053 : decode cL_law 1053 = .ok (.iload 6, 2) := by decide +kernel
theorem dL_law_1055 : decode cL_law 1055 = .ok (.i2l, 1) := by decide +kernel
theorem dL_law_1056 : decode cL_law 1056 = .ok (.lcmp, 1) := by decide +kernel
theorem dL_law_1057 : decode cL_law 1057 = .ok (.ifCond .eq 5, 3) := by decide +kernel
theorem dL_law_1060 : decode cL_law 1060 = .ok (.iconst 0, 1) := by decide +kernel
theorem dL_law_1061 : decode cL_law 1061 = .ok (.ireturn, 1) := by decide +kernel
theorem dL_law_1062 : decode cL_law 1062 = .ok (.goto 75, 3) := by decide +kernel
theorem dL_law_1065 : decode cL_law 1065 = .ok (.aload_n 1, 1) := by decide +kernel
theorem dL_law_1066 : decode cL_law 1066 = .ok (.aload_n 0, 1) := by decide +kernel
theorem dL_law_1067 : decode cL_law 1067 = .ok (.iload 4, 2) := by decide +kernel
theorem dL_law_1069 : decode cL_law 1069 = .ok (.iconst 1, 1) := by decide +kernel
theorem dL_law_1070 : decode cL_law 1070 = .ok (.iadd, 1) := by decide +kernel
theorem dL_law_1071 : decode cL_law 1071 = .ok (.iaload, 1) := by decide +kernel
theorem dL_law_1072 : decode cL_law 1072 = .ok (.ifCond .eq 7, 3) := by decide +kernel
theorem dL_law_1075 : decode cL_law 1075 = .ok (.iconst 1, 1) := by decide +kernel
theorem dL_law_1076 : decode cL_law 1076 = .ok (.goto 4, 3) := by decide +kernel
theorem dL_law_1079 : decode cL_law 1079 = .ok (.iconst 0, 1) := by decide +kernel
theorem dL_law_1080 : decode cL_law 1080 = .ok (.aload_n 3, 1) := by decide +kernel
theorem dL_law_1081 : decode cL_law 1081 = .ok (.invokestatic 145, 3) := by decide +kernel
theorem dL_law_1084 : decode cL_law 1084 = .ok (.istore 5, 2) := by decide +kernel
theorem dL_law_1086 : decode cL_law 1086 = .ok (.aload_n 2, 1) := by decide +kernel
theorem dL_law_1087 : decode cL_law 1087 = .ok (.aload_n 0, 1) := by decide +kernel
theorem dL_law_1088 : decode cL_law 1088 = .ok (.iload 4, 2) := by decide +kernel
theorem dL_law_1090 : decode cL_law 1090 = .ok (.iconst 1, 1) := by decide +kernel
theorem dL_law_1091 : decode cL_law 1091 = .ok (.iadd, 1) := by decide +kernel
theorem dL_law_1092 : decode cL_law 1092 = .ok (.iaload, 1) := by decide +kernel
theorem dL_law_1093 : decode cL_law 1093 = .ok (.ifCond .eq 7, 3) := by decide +kernel
theorem dL_law_1096 : decode cL_law 1096 = .ok (.iconst 1, 1) := by decide +kernel
theorem dL_law_1097 : decode cL_law 1097 = .ok (.goto 4, 3) := by decide +kernel
theorem dL_law_1100 : decode cL_law 1100 = .ok (.iconst 0, 1) := by decide +kernel
theorem dL_law_1101 : decode cL_law 1101 = .ok (.invokevirtual 148, 3) := by decide +kernel
theorem dL_law_1104 : decode cL_law 1104 = .ok (.istore 6, 2) := by decide +kernel
theorem dL_law_1106 : decode cL_law 1106 = .ok (.aload_n 2, 1) := by decide +kernel
theorem dL_law_1107 : decode cL_law 1107 = .ok (.invokevirtual 77, 3) := by decide +kernel
theorem dL_law_1110 : decode cL_law 1110 = .ok (.iload 5, 2) := by decide +kernel
theorem dL_law_1112 : decode cL_law 1112 = .ok (.if_icmp .eq 5, 3) := by decide +kernel
theorem dL_law_1115 : decode cL_law 1115 = .ok (.iconst 0, 1) := by decide +kernel
theorem dL_law_1116 : decode cL_law 1116 = .ok (.ireturn, 1) := by decide +kernel
theorem dL_law_1117 : decode cL_law 1117 = .ok (.iload 5, 2) := by decide +kernel
theorem dL_law_1119 : decode cL_law 1119 = .ok (.ifCond .ne 15, 3) := by decide +kernel
theorem dL_law_1122 : decode cL_law 1122 = .ok (.aload_n 3, 1) := by decide +kernel
theorem dL_law_1123 : decode cL_law 1123 = .ok (.iconst 0, 1) := by decide +kernel
theorem dL_law_1124 : decode cL_law 1124 = .ok (.laload, 1) := by decide +kernel
theorem dL_law_1125 : decode cL_law 1125 = .ok (.iload 6, 2) := by decide +kernel
theorem dL_law_1127 : decode cL_law 1127 = .ok (.i2l, 1) := by decide +kernel
theorem dL_law_1128 : decode cL_law 1128 = .ok (.lcmp, 1) := by decide +kernel
theorem dL_law_1129 : decode cL_law 1129 = .ok (.ifCond .eq 5, 3) := by decide +kernel
theorem dL_law_1132 : decode cL_law 1132 = .ok (.iconst 0, 1) := by decide +kernel
theorem dL_law_1133 : decode cL_law 1133 = .ok (.ireturn, 1) := by decide +kernel
theorem dL_law_1134 : decode cL_law 1134 = .ok (.goto 3, 3) := by decide +kernel
theorem dL_law_1137 : decode cL_law 1137 = .ok (.iinc 4 3, 3) := by decide +kernel
theorem dL_law_1140 : decode cL_law 1140 = .ok (.goto (-1117), 3) := by decide +kernel
theorem dL_law_1143 : decode cL_law 1143 = .ok (.iconst 1, 1) := by decide +kernel
theorem dL_law_1144 : decode cL_law 1144 = .ok (.ireturn, 1) := by decide +kernel
end
section
/-! LIB A: the words of all methods, worlds in chunks, what stays at the start -/
def xT : List Cond := lw_tbl.filter goodWord
theorem xT_mem {w : Cond} (h : w ∈ lw_tbl) (g : goodWord w = true) : w ∈ xT := List.mem_filter.mpr ⟨h, g⟩
theorem xT_good {big : List Cond} (h : ∀ w ∈ xT, w ∈ big) : GoodIn big xT := fun w hw => ⟨h w hw, good_of_word (List.mem_filter.mp hw).2⟩
theorem xT_cons {w : Cond} (h : w ∈ xT) : GoodIn xT (w :: xT) := fun z hz => (List.mem_cons.mp hz).elim (fun e => by rw [e]; exact ⟨h, good_of_word (List.mem_filter.mp h).2⟩) (fun hz => ⟨hz, good_of_word (List.mem_filter.mp hz).2⟩)
theorem xP_iff {D : va_G} {cl : List vw_C} {ws : va_W} {H : Heap} : va_P D cl ws H ↔ ∀ q ∈ ws, va_at D cl q H :=
  ⟨fun h q hq => by
    obtain ⟨k, hk⟩ := List.getElem?_of_mem hq
    exact h k q hk, fun h k q hk => h q (List.mem_of_getElem? hk)⟩
theorem xD_iff {A : Nat → Prop} {ws : va_W} : va_D A ws ↔ ws.Pairwise (fun p q => p.1 ≠ q.1) ∧ ∀ q ∈ ws, A q.1 := by
  constructor
  · intro h
    refine ⟨List.pairwise_iff_getElem.mpr fun i j hi hj hij e => ?_, fun q hq => ?_⟩
    · have h2 := h.1 i j _ _ (List.getElem?_eq_getElem hi) (List.getElem?_eq_getElem hj) e
      omega
    · obtain ⟨k, hk⟩ := List.getElem?_of_mem hq
      exact h.2 k q hk
  · intro h
    refine ⟨fun i j p q hi hj e => ?_, fun k q hk => h.2 q (List.mem_of_getElem? hk)⟩
    obtain ⟨hi', hpi⟩ := List.getElem?_eq_some_iff.mp hi
    obtain ⟨hj', hpj⟩ := List.getElem?_eq_some_iff.mp hj
    rcases Nat.lt_trichotomy i j with l | l | l
    · exact absurd (by rw [hpi, hpj]; exact e) (List.pairwise_iff_getElem.mp h.1 i j hi' hj' l)
    · exact l
    · exact absurd (by rw [hpi, hpj]; exact e.symm) (List.pairwise_iff_getElem.mp h.1 j i hj' hi' l)
theorem xP_perm {D : va_G} {cl : List vw_C} {ws ws' : va_W} {H : Heap} (h : List.Perm ws ws') (hP : va_P D cl ws H) : va_P D cl ws' H :=
  xP_iff.mpr fun q hq => xP_iff.mp hP q (h.mem_iff.mpr hq)
theorem xD_perm {A : Nat → Prop} {ws ws' : va_W} (h : List.Perm ws ws') (hD : va_D A ws) : va_D A ws' := by
  have h1 := xD_iff.mp hD
  exact xD_iff.mpr ⟨(h.pairwise_iff (fun hxy e => hxy e.symm)).mp h1.1, fun q hq => h1.2 q (h.mem_iff.mpr hq)⟩
theorem xfl_pick : ∀ {cs : List va_W} {i : Nat} {c : va_W}, cs[i]? = some c → List.Perm cs.flatten (c ++ (cs.set i []).flatten)
  | [], i, c, h => by simp at h
  | a :: cs, 0, c, h => by
    have e : a = c := by simpa using h
    subst e
    simp
  | a :: cs, i + 1, c, h => by
    have ih := xfl_pick (cs := cs) (i := i) (c := c) (by simpa using h)
    simp only [List.flatten_cons, List.set_cons_succ]
    refine (ih.append_left a).trans ?_
    rw [← List.append_assoc, ← List.append_assoc]
    exact List.perm_append_comm.append_right _
theorem xfl_set {cs : List va_W} {i : Nat} (c : va_W) (h : i < cs.length) : List.Perm (cs.set i c).flatten (c ++ (cs.set i []).flatten) := by
  have h1 : (cs.set i c)[i]? = some c := List.getElem?_set_self h
  have h2 := xfl_pick h1
  rwa [List.set_set] at h2
def xclr : List va_W → List Nat → List va_W
  | cs, [] => cs
  | cs, i :: is => xclr (cs.set i []) is
def xput : List va_W → List Nat → List va_W → List va_W
  | cs, [], r => cs ++ r
  | cs, i :: is, [] => xput (cs.set i []) is []
  | cs, i :: is, c :: r => xput (cs.set i c) is r
theorem xclr_set : ∀ (is : List Nat) (cs : List va_W) (i : Nat) (c : va_W), i ∉ is → xclr (cs.set i c) is = (xclr cs is).set i c
  | [], cs, i, c, _ => rfl
  | j :: is, cs, i, c, h => by
    have hij : i ≠ j := fun e => h (by rw [e]; exact List.mem_cons_self)
    show xclr ((cs.set i c).set j []) is = (xclr (cs.set j []) is).set i c
    rw [List.set_comm _ _ hij]
    exact xclr_set is (cs.set j []) i c (fun q => h (List.mem_cons_of_mem _ q))
theorem xclr_len : ∀ (is : List Nat) (cs : List va_W), (xclr cs is).length = cs.length
  | [], cs => rfl
  | j :: is, cs => by
    show (xclr (cs.set j []) is).length = cs.length
    rw [xclr_len is, List.length_set]
theorem xnd_cons {i : Nat} {is : List Nat} (h : va_nd (i :: is) = true) : i ∉ is ∧ va_nd is = true := by
  simp only [va_nd, Bool.and_eq_true, decide_eq_true_eq] at h
  exact h
theorem xfl_picks : ∀ (is : List Nat) (cs wc : List va_W), is.map (fun i => cs[i]?) = wc.map some → va_nd is = true → List.Perm cs.flatten (wc.flatten ++ (xclr cs is).flatten)
  | [], cs, wc, h, _ => by
    cases wc with
    | nil => exact List.Perm.refl _
    | cons c r => simp at h
  | i :: is, cs, wc, h, hn => by
    obtain ⟨h1, h2⟩ := xnd_cons hn
    cases wc with
    | nil => simp at h
    | cons c r =>
      simp only [List.map_cons, List.cons.injEq] at h
      have h3 : is.map (fun j => (cs.set i [])[j]?) = r.map some := by
        rw [← h.2]
        refine List.map_congr_left fun j hj => ?_
        exact List.getElem?_set_ne (fun e => h1 (by rw [e]; exact hj))
      refine (xfl_pick h.1).trans ?_
      show List.Perm _ ((c :: r).flatten ++ (xclr (cs.set i []) is).flatten)
      rw [List.flatten_cons, List.append_assoc]
      exact (xfl_picks is (cs.set i []) r h3 h2).append_left c
theorem xfl_put : ∀ (is : List Nat) (cs r : List va_W), va_nd is = true → (∀ i ∈ is, i < cs.length) → List.Perm (xput cs is r).flatten (r.flatten ++ (xclr cs is).flatten)
  | [], cs, r, _, _ => by
    show List.Perm (cs ++ r).flatten _
    rw [List.flatten_append]
    exact List.perm_append_comm
  | i :: is, cs, [], hn, hl => by
    obtain ⟨h1, h2⟩ := xnd_cons hn
    exact xfl_put is (cs.set i []) [] h2 (fun j hj => by rw [List.length_set]; exact hl j (List.mem_cons_of_mem _ hj))
  | i :: is, cs, c :: r, hn, hl => by
    obtain ⟨h1, h2⟩ := xnd_cons hn
    refine (xfl_put is (cs.set i c) r h2 (fun j hj => by rw [List.length_set]; exact hl j (List.mem_cons_of_mem _ hj))).trans ?_
    rw [xclr_set is cs i c h1]
    have h3 : i < (xclr cs is).length := by rw [xclr_len]; exact hl i List.mem_cons_self
    show List.Perm _ ((c :: r).flatten ++ (xclr (cs.set i []) is).flatten)
    rw [xclr_set is cs i [] h1, List.flatten_cons]
    refine ((xfl_set c h3).append_left r.flatten).trans ?_
    rw [← List.append_assoc]
    exact List.perm_append_comm.append_right _
theorem xpk_lt {is : List Nat} {cs wc : List va_W} (h : is.map (fun i => cs[i]?) = wc.map some) : ∀ i ∈ is, i < cs.length := by
  intro i hi
  have h1 : cs[i]? ∈ is.map (fun i => cs[i]?) := List.mem_map.mpr ⟨i, hi, rfl⟩
  rw [h] at h1
  obtain ⟨c, -, hc⟩ := List.mem_map.mp h1
  exact (List.getElem?_eq_some_iff.mp hc.symm).1
theorem xpick {D : va_G} {cl : List vw_C} {A : Nat → Prop} {cs wc : List va_W} {is : List Nat} {H : Heap} (hP : va_P D cl cs.flatten H) (hD : va_D A cs.flatten) (hpk : is.map (fun i => cs[i]?) = wc.map some) (hnd : va_nd is = true) : va_P D cl wc.flatten H ∧ va_D A wc.flatten := by
  have hp := xfl_picks is cs wc hpk hnd
  have h1 := xD_iff.mp (xD_perm hp hD)
  refine ⟨xP_iff.mpr fun q hq => xP_iff.mp (xP_perm hp hP) q (List.mem_append_left _ hq), xD_iff.mpr ⟨(List.pairwise_append.mp h1.1).1, fun q hq => h1.2 q (List.mem_append_left _ hq)⟩⟩
theorem xA_mem {ws : va_W} {sz : Nat} {q : Nat} : va_A ws sz q ↔ (∃ e, (q, e) ∈ ws) ∨ sz ≤ q := by
  constructor
  · rintro (⟨k, e, h⟩ | h)
    · exact Or.inl ⟨e, List.mem_of_getElem? h⟩
    · exact Or.inr h
  · rintro (⟨e, h⟩ | h)
    · obtain ⟨k, hk⟩ := List.getElem?_of_mem h
      exact Or.inl ⟨k, e, hk⟩
    · exact Or.inr h
theorem xfree {A : Nat → Prop} {wc : va_W} {H0 H : Heap} {locs : List Loc} (hD : va_D A wc) (hS : va_S A H0 H locs) (hA : ∀ q, H0.size ≤ q → A q) : ∀ q, va_A wc H.size q → A q := by
  intro q h
  rcases xA_mem.mp h with ⟨e, h⟩ | h
  · exact (xD_iff.mp hD).2 _ h
  · exact hA q (Nat.le_trans hS.1 h)
theorem xjoin {D : va_G} {cl : List vw_C} {A : Nat → Prop} {cs wc cs1 : List va_W} {is : List Nat} {H H1 : Heap} (hP : va_P D cl cs.flatten H) (hD : va_D A cs.flatten) (hpk : is.map (fun i => cs[i]?) = wc.map some) (hnd : va_nd is = true)
    (hk : ∀ q : Nat, q < H.size → ¬ va_A wc.flatten H.size q → H1[q]? = H[q]?) (hF : ∀ q, va_A wc.flatten H.size q → A q) (hP1 : va_P D cl cs1.flatten H1) (hD1 : va_D (va_A wc.flatten H.size) cs1.flatten) :
    va_P D cl (xput cs is cs1).flatten H1 ∧ va_D A (xput cs is cs1).flatten := by
  have hp := xfl_picks is cs wc hpk hnd
  have hq := (xfl_put is cs cs1 hnd (xpk_lt hpk)).symm
  have hP2 := xP_iff.mp (xP_perm hp hP)
  have hD2 := xD_iff.mp (xD_perm hp hD)
  obtain ⟨d1, d2, d3⟩ := List.pairwise_append.mp hD2.1
  have hout : ∀ z ∈ (xclr cs is).flatten, z.1 < H.size ∧ ¬ va_A wc.flatten H.size z.1 := by
    intro z hz
    have hl := (hP2 z (List.mem_append_right _ hz)).lt
    refine ⟨hl, fun h => ?_⟩
    rcases xA_mem.mp h with ⟨e, h⟩ | h
    · exact d3 _ h _ hz rfl
    · omega
  have hD1' := xD_iff.mp hD1
  refine ⟨xP_perm hq (xP_iff.mpr fun z hz => ?_), xD_perm hq (xD_iff.mpr ⟨List.pairwise_append.mpr ⟨hD1'.1, d2, fun a ha b hb e => ?_⟩, fun z hz => ?_⟩)⟩
  · rcases List.mem_append.mp hz with h | h
    · exact xP_iff.mp hP1 z h
    · exact (hP2 z (List.mem_append_right _ h)).kept (hk z.1 (hout z h).1 (hout z h).2)
  · exact (hout b hb).2 (by rw [← e]; exact hD1'.2 a ha)
  · rcases List.mem_append.mp hz with h | h
    · exact hF _ (hD1'.2 z h)
    · exact hD2.2 z (List.mem_append_right _ h)
theorem xfl_at : ∀ {cs : List va_W} {i j : Nat} {ch : va_W} {x : Nat × va_E}, cs[i]? = some ch → ch[j]? = some x → ∃ q0 : Nat, cs.flatten[q0]? = some x ∧ ∀ y, cs.flatten.set q0 y = (cs.set i (ch.set j y)).flatten
  | [], i, j, ch, x, h, _ => by simp at h
  | a :: cs, 0, j, ch, x, h, hx => by
    have e : a = ch := by simpa using h
    subst e
    have hl := (List.getElem?_eq_some_iff.mp hx).1
    refine ⟨j, ?_, fun y => ?_⟩
    · rw [List.flatten_cons, List.getElem?_append_left hl]
      exact hx
    · simp only [List.flatten_cons, List.set_cons_zero]
      rw [List.set_append_left _ _ hl]
  | a :: cs, i + 1, j, ch, x, h, hx => by
    obtain ⟨q0, h1, h2⟩ := xfl_at (cs := cs) (i := i) (j := j) (ch := ch) (x := x) (by simpa using h) hx
    refine ⟨a.length + q0, ?_, fun y => ?_⟩
    · rw [List.flatten_cons, List.getElem?_append_right (Nat.le_add_right _ _), Nat.add_sub_cancel_left]
      exact h1
    · simp only [List.flatten_cons, List.set_cons_succ]
      rw [List.set_append_right _ _ (Nat.le_add_right _ _), Nat.add_sub_cancel_left, h2]
theorem xfl_mem {cs : List va_W} {i j : Nat} {ch : va_W} {x : Nat × va_E} (h1 : cs[i]? = some ch) (h2 : ch[j]? = some x) : ∃ q0 : Nat, cs.flatten[q0]? = some x := by
  obtain ⟨q0, h, -⟩ := xfl_at h1 h2
  exact ⟨q0, h⟩
/-! what the tables and the statics say, carried from caller to callee -/
def xTY (D : va_G) : List (ClassId × FieldType) := [(D.1 10, .int), (D.1 11, .boolean), (D.1 12, .long), (D.1 13, .object "CreditLinks$Link"), (D.1 14, .object "java/lang/Object")]
def xND : List MethodName := [⟨"java/lang/Exception", "<init>", "(Ljava/lang/String;)V"⟩, ⟨"java/lang/RuntimeException", "<init>", "(Ljava/lang/String;)V"⟩, ⟨"java/lang/Throwable", "<init>", "(Ljava/lang/String;)V"⟩, ⟨"java/lang/Object", "getClass", "()Ljava/lang/Class;"⟩]
def xIAE : String := "java/lang/IllegalArgumentException"
def xISE : String := "java/lang/IllegalStateException"
def xIOB : String := "java/lang/IndexOutOfBoundsException"
def xNC : List (String × String) := [(xIAE, xIAE), (xISE, xISE), (xIOB, xIOB), ("CreditLinks$Delivery", "java/lang/Object")]
def xNM : List (String × Nat × MethodName × String) := [("CreditLinks", 24, ⟨"CreditLinks$Row", "<init>", "()V"⟩, "CreditLinks"), ("CreditLinks", 46, ⟨"CreditLinks$Link", "<init>", "()V"⟩, "CreditLinks"), ("CreditLinks$Link", 24, ⟨"CreditLinks", "wrapped", "(I)I"⟩, "CreditLinks")]
def xNS : List (String × Nat × String) := [("CreditLinks", 182, "there is no such link"), ("CreditLinks", 53, "there is no such mode"), ("CreditLinks", 61, "credit is out of range"), ("CreditLinks", 187, "the connection is not up"), ("CreditLinks", 81, "frames is out of range"), ("CreditLinks", 88, "there are as many deliveries as there can be"), ("CreditLinks", 91, "the sender has no credit on the link"), ("CreditLinks", 197, "count is out of range"), ("CreditLinks", 185, "there is no such delivery"), ("CreditLinks", 195, "there is no such outcome"), ("CreditLinks", 191, "the delivery is not whole"), ("CreditLinks", 193, "an outcome waits for the delivery"), ("CreditLinks", 157, "the connection is up"), ("CreditLinks", 172, "a transaction is open"), ("CreditLinks", 189, "no transaction is open")]
def xNN : List (String × String) := [(xIAE, xIOB), (xISE, xIOB), (xISE, xIAE)]
def xN (U : State) : Prop := (∀ q ∈ xND, va_Nw (.declares q) U) ∧ (∀ q ∈ xNC, va_Nw (.castable q.1 q.2) U) ∧ (∀ q ∈ xNM, va_Nw (.methodLinkNest q.1 q.2.1 q.2.2.1 q.2.2.2) U) ∧ (va_AO "CreditLinks$Link" U ∧ va_AO "java/lang/Object" U) ∧ (∀ q ∈ xNS, ∃ a, vk_R q.1 q.2.1 q.2.2 a U) ∧ (∀ q ∈ xNN, va_Nc q.1 q.2 U) ∧ ∃ mi, va_Mi "[Ljava/lang/Object;" mi U
theorem xN.warm {s U : State} (hW : s.WarmedH U.vm) (h : xN s) : xN U := by
  obtain ⟨h1, h2, h3, h4, h5, h6, mi, h7⟩ := h
  refine ⟨fun q hq => va_Nw.warmD hW (h1 q hq), fun q hq => va_Nw.warmC hW (h2 q hq), fun q hq => va_Nw.warmM hW (h3 q hq), ⟨va_AO.moved hW.alike h4.1, va_AO.moved hW.alike h4.2⟩, fun q hq => ?_, fun q hq => va_Nc.moved hW.alike (h6 q hq), mi, va_Mi.moved hW.alike h7⟩
  obtain ⟨a, ha⟩ := h5 q hq
  exact ⟨a, vk_R.warm hW ha⟩
def xZh (e0 : Nat) (A : Nat → Prop) (U : State) (H : Heap) : Prop := va_Z "java/util/ArrayList" "DEFAULTCAPACITY_EMPTY_ELEMENTDATA" "[Ljava/lang/Object;" (.ref e0) A U H ∧ va_T (.object "java/lang/Object") e0 0 (fun _ => .null) A U H ∧ vx_Zq Bundle.tN "UNASSIGNED_STACK" Bundle.steD A U H ∧ vx_Zq Bundle.tN "SUPPRESSED_SENTINEL" Bundle.listD A U H
def xZ (D : va_G) (e0 : Nat) (A : Nat → Prop) (U : State) (H : Heap) : Prop := va_K D vwCl (xTY D) U ∧ xN U ∧ xZh e0 A U H
theorem xZ.warm {D : va_G} {e0 : Nat} {A : Nat → Prop} {s U : State} {H : Heap} (hW : s.WarmedH U.vm) (h : xZ D e0 A s H) : xZ D e0 A U H :=
  ⟨va_K.moved hW.alike h.1, h.2.1.warm hW, va_Z.moved hW.alike h.2.2.1, va_T.moved hW.alike h.2.2.2.1, vx_Zq.moved hW.alike h.2.2.2.2.1, vx_Zq.moved hW.alike h.2.2.2.2.2⟩
theorem xZ.kept {D : va_G} {e0 : Nat} {A : Nat → Prop} {U : State} {H H1 : Heap} (h : xZ D e0 A U H) (hq : ∀ a : Nat, a < H.size → ¬ A a → H1[a]? = H[a]?) : xZ D e0 A U H1 :=
  ⟨h.1, h.2.1, h.2.2.1.kept hq, h.2.2.2.1.kept hq, h.2.2.2.2.1.kept hq, h.2.2.2.2.2.kept hq⟩
theorem xZ.narrow {D : va_G} {e0 : Nat} {A B : Nat → Prop} {U : State} {H : Heap} (h : xZ D e0 A U H) (hAB : ∀ q, B q → A q) : xZ D e0 B U H :=
  ⟨h.1, h.2.1, h.2.2.1.narrow hAB, h.2.2.2.1.narrow hAB, h.2.2.2.2.1.narrow hAB, h.2.2.2.2.2.narrow hAB⟩
/-! the goals of a walk, with all that doesn't change packed away -/
def xG (p : Program) (l : Launch) (e : Env) (R : Room) (s : State) (m : MethodId) (args : Array Value) (below : List Frame) (meth : Method) (c : Code) (Q : State → Prop) (D : va_G) (A : Nat → Prop) (nL : Nat) (pc : Nat) (lv : List (Nat × Value)) (st : List Value) (cs : List va_W) (k n : Nat) : Prop :=
  ∀ (H : Heap) (locs : List Loc) (ls : Array Slot), va_P D vwCl cs.flatten H → va_D A cs.flatten → va_S A s.heap H locs → lv_has ls nL lv → W p l e R s m args below meth c H locs k n Q (F0 m pc ls st)
def xX (p : Program) (l : Launch) (e : Env) (R : Room) (s : State) (m : MethodId) (args : Array Value) (below : List Frame) (meth : Method) (c : Code) (Q : State → Prop) (D : va_G) (A : Nat → Prop) (nL : Nat) (E : String) (pc : Nat) (lv : List (Nat × Value)) (cs : List va_W) (k n : Nat) : Prop :=
  ∀ (H : Heap) (locs : List Loc) (ls : Array Slot) (rest : List Value) (q : Addr) (ce : Cell), va_P D vwCl cs.flatten H → va_D A cs.flatten → va_S A s.heap H locs → lv_has ls nL lv → H[q]? = some ce → ce.vm = .none → s.vm.findClass E = some ce.cls → vx_W p l e R s m args below meth c H locs k n Q (F0 m pc ls rest) q
abbrev xGt : Type := Nat → List (Nat × Value) → List Value → List va_W → Nat → Nat → Prop
abbrev xXt : Type := String → Nat → List (Nat × Value) → List va_W → Nat → Nat → Prop
def xFx (p : Program) (l : Launch) (s : State) (m : MethodId) (args : Array Value) (meth : Method) (c : Code) (D : va_G) (e0 : Nat) (A : Nat → Prop) (nL : Nat) (own : String) (cc : ByteArray) (ret : Option FieldType) (hh : List (Nat × Nat × Nat × Nat)) : Prop :=
  (∀ w ∈ xT, w.before args s = true) ∧ meth.sig.returnType = ret ∧ c.exceptionTable.toList = tableOf hh ∧ xZ D e0 A s s.heap ∧ (∀ q, s.heap.size ≤ q → A q) ∧ meth.locks = false ∧ l.stackTraces = false
/-- the base of every row -/
def xB (l : Launch) (D : va_G) (e0 : Nat) (own : String) (cc : ByteArray) (nL : Nat) (ret : Option FieldType) (hh : List (Nat × Nat × Nat × Nat)) (R : Room) (G : xGt) (X : xXt) : Prop :=
  ∃ (p : Program) (e : Env) (s : State) (m : MethodId) (args : Array Value) (below : List Frame) (meth : Method) (c : Code) (A : Nat → Prop) (Q : State → Prop),
    G = xG p l e R s m args below meth c Q D A nL ∧ X = xX p l e R s m args below meth c Q D A nL ∧ p.tables.exec = Jvm.exec ∧ c.code = cc ∧ c.maxLocals = nL ∧ s.vm.findClass own = some m.cls ∧ xFx p l s m args meth c D e0 A nL own cc ret hh
def xQ (D : va_G) (A : Nat → Prop) (post : Option Value → List va_W → Prop) : Array Value → State → Outcome → State → Prop := fun _ st oc t =>
  (∃ (v : Option Value) (cs : List va_W), oc = .returned v ∧ post v cs ∧ va_P D vwCl cs.flatten t.heap ∧ va_D A cs.flatten) ∧ va_F A st t
def xXC (D : va_G) (A : Nat → Prop) (cs0 : List va_W) (xp : String → Prop) : String → State → State → Prop := fun E st t => xp E ∧ va_P D vwCl cs0.flatten t.heap ∧ va_F A st t
/-- .. of a method's body -/
def xF (l : Launch) (D : va_G) (e0 : Nat) (own : String) (cc : ByteArray) (nL : Nat) (ret : Option FieldType) (hh : List (Nat × Nat × Nat × Nat)) (R : Room) (nm : String) (cs0 : List va_W) (post : Option Value → List va_W → Prop) (xp : String → Prop) (G : xGt) (X : xXt) : Prop :=
  ∃ (p : Program) (e : Env) (s : State) (m : MethodId) (args : Array Value) (below : List Frame) (meth : Method) (c : Code) (A : Nat → Prop) (Q : State → Prop),
    G = xG p l e R s m args below meth c Q D A nL ∧ X = xX p l e R s m args below meth c Q D A nL ∧ p.tables.exec = Jvm.exec ∧ c.code = cc ∧ c.maxLocals = nL ∧ s.vm.findClass own = some m.cls ∧ xFx p l s m args meth c D e0 A nL own cc ret hh ∧
    meth.name = nm ∧ Q = vx_MQ below (xQ D A post) (xXC D A cs0 xp) args s R.cells R.slots A
theorem xF.base {l : Launch} {D : va_G} {e0 : Nat} {own : String} {cc : ByteArray} {nL : Nat} {ret : Option FieldType} {hh : List (Nat × Nat × Nat × Nat)} {R : Room} {nm : String} {cs0 : List va_W} {post : Option Value → List va_W → Prop} {xp : String → Prop} {G : xGt} {X : xXt}
    (h : xF l D e0 own cc nL ret hh R nm cs0 post xp G X) : xB l D e0 own cc nL ret hh R G X := by
  obtain ⟨p, e, s, m, args, below, meth, c, A, Q, h1, h2, h3, h4, h5, h6, h7, -, -⟩ := h
  exact ⟨p, e, s, m, args, below, meth, c, A, Q, h1, h2, h3, h4, h5, h6, h7⟩
/-- a contract -/
def xPre (D : va_G) (e0 : Nat) (cs : List va_W) (sz : Nat) (U : State) : Prop := U.heap.size = sz ∧ va_P D vwCl cs.flatten U.heap ∧ va_D (fun _ => True) cs.flatten ∧ xZ D e0 (va_A cs.flatten sz) U U.heap
def xC (l : Launch) (y : MethodName) (w : Cond) (rm : Room) (D : va_G) (e0 : Nat) (av : List Value) (cs : List va_W) (post : Option Value → List va_W → Prop) (xp : String → Prop) : Prop :=
  ∀ sz : Nat, vx_Met l y (w :: xT) rm (va_Pc av (xPre D e0 cs sz)) (xQ D (va_A cs.flatten sz) post) (xXC D (va_A cs.flatten sz) cs xp) rm.cells rm.slots (va_A cs.flatten sz)
theorem xPre.blind {D : va_G} {e0 : Nat} {av : List Value} {cs : List va_W} {sz : Nat} : FrameBlind (va_Pc av (xPre D e0 cs sz)) := by
  intro a U g mk h
  obtain ⟨h0, h1, h2, h3, h4⟩ := h
  exact ⟨h0, h1, h2, h3, xZ.warm (U := U.calling g mk a) (State.WarmedH.refl U) h4⟩
end
section
/-! LIB B: an instruction, a row -/
theorem x_val {l : Launch} {D : va_G} {e0 : Nat} {own : String} {cc : ByteArray} {nL : Nat} {ret : Option FieldType} {hh : List (Nat × Nat × Nat × Nat)} {R : Room} {G : xGt} {X : xXt} (B : xB l D e0 own cc nL ret hh R G X) {pc : Nat} {lv : List (Nat × Value)} {st : List Value} {cs : List va_W} {k n : Nat} {x y : Int32} (h : x = y) (kk : G pc lv (.int y :: st) cs k n) : G pc lv (.int x :: st) cs k n := h ▸ kk
theorem x_wid {l : Launch} {D : va_G} {e0 : Nat} {own : String} {cc : ByteArray} {nL : Nat} {ret : Option FieldType} {hh : List (Nat × Nat × Nat × Nat)} {R : Room} {G : xGt} {X : xXt} (B : xB l D e0 own cc nL ret hh R G X) {pc : Nat} {lv : List (Nat × Value)} {st : List Value} {cs : List va_W} {k n : Nat} (k1 n1 : Nat) (h1 : k ≤ k1) (h2 : n ≤ n1) (kk : G pc lv st cs k1 n1) : G pc lv st cs k n := by
  obtain ⟨p, e, s, m, args, below, meth, c, A, Q, rfl, rfl, hx, hb, hml, hown, hts, hret, htab, hZ, hA, hlk, htr⟩ := B
  intro H locs ls hP hD hS hL
  exact W.widen h1 h2 (kk H locs ls hP hD hS hL)
theorem x_lv {l : Launch} {D : va_G} {e0 : Nat} {own : String} {cc : ByteArray} {nL : Nat} {ret : Option FieldType} {hh : List (Nat × Nat × Nat × Nat)} {R : Room} {G : xGt} {X : xXt} (B : xB l D e0 own cc nL ret hh R G X) {pc : Nat} {lv : List (Nat × Value)} {st : List Value} {cs : List va_W} {k n : Nat} (js : List Nat) (lv1 : List (Nat × Value)) (h : lv_pick lv js = lv1) (kk : G pc lv1 st cs k n) : G pc lv st cs k n := by
  obtain ⟨p, e, s, m, args, below, meth, c, A, Q, rfl, rfl, hx, hb, hml, hown, hts, hret, htab, hZ, hA, hlk, htr⟩ := B
  intro H locs ls hP hD hS hL
  exact kk H locs ls hP hD hS (lv_sub hL js h)
theorem x_perm {l : Launch} {D : va_G} {e0 : Nat} {own : String} {cc : ByteArray} {nL : Nat} {ret : Option FieldType} {hh : List (Nat × Nat × Nat × Nat)} {R : Room} {G : xGt} {X : xXt} (B : xB l D e0 own cc nL ret hh R G X) {pc : Nat} {lv : List (Nat × Value)} {st : List Value} {cs : List va_W} {k n : Nat} {cs1 : List va_W} (h : List.Perm cs.flatten cs1.flatten) (kk : G pc lv st cs1 k n) : G pc lv st cs k n := by
  obtain ⟨p, e, s, m, args, below, meth, c, A, Q, rfl, rfl, hx, hb, hml, hown, hts, hret, htab, hZ, hA, hlk, htr⟩ := B
  intro H locs ls hP hD hS hL
  exact kk H locs ls (xP_perm h hP) (xD_perm h hD) hS hL
theorem x_flat {l : Launch} {D : va_G} {e0 : Nat} {own : String} {cc : ByteArray} {nL : Nat} {ret : Option FieldType} {hh : List (Nat × Nat × Nat × Nat)} {R : Room} {G : xGt} {X : xXt} (B : xB l D e0 own cc nL ret hh R G X) {pc : Nat} {lv : List (Nat × Value)} {st : List Value} {cs : List va_W} {k n : Nat} {cs1 : List va_W} (h : cs.flatten = cs1.flatten) (kk : G pc lv st cs1 k n) : G pc lv st cs k n := x_perm B (List.Perm.of_eq h) kk
theorem x_drop {l : Launch} {D : va_G} {e0 : Nat} {own : String} {cc : ByteArray} {nL : Nat} {ret : Option FieldType} {hh : List (Nat × Nat × Nat × Nat)} {R : Room} {G : xGt} {X : xXt} (B : xB l D e0 own cc nL ret hh R G X) {pc : Nat} {lv : List (Nat × Value)} {st : List Value} {cs : List va_W} {k n : Nat} (is : List Nat) (cs1 : List va_W) (h : is.map (fun i => cs[i]?) = cs1.map some) (hn : va_nd is = true) (kk : G pc lv st cs1 k n) : G pc lv st cs k n := by
  obtain ⟨p, e, s, m, args, below, meth, c, A, Q, rfl, rfl, hx, hb, hml, hown, hts, hret, htab, hZ, hA, hlk, htr⟩ := B
  intro H locs ls hP hD hS hL
  obtain ⟨hP1, hD1⟩ := xpick hP hD h hn
  exact kk H locs ls hP1 hD1 hS hL
theorem x_world {l : Launch} {D : va_G} {e0 : Nat} {own : String} {cc : ByteArray} {nL : Nat} {ret : Option FieldType} {hh : List (Nat × Nat × Nat × Nat)} {R : Room} {G : xGt} {X : xXt} (B : xB l D e0 own cc nL ret hh R G X) {pc : Nat} {lv : List (Nat × Value)} {st : List Value} {cs : List va_W} {k n : Nat} (kk : (cs.flatten.Pairwise (fun p q => p.1 ≠ q.1)) → G pc lv st cs k n) : G pc lv st cs k n := by
  obtain ⟨p, e, s, m, args, below, meth, c, A, Q, rfl, rfl, hx, hb, hml, hown, hts, hret, htab, hZ, hA, hlk, htr⟩ := B
  intro H locs ls hP hD hS hL
  exact kk (xD_iff.mp hD).1 H locs ls hP hD hS hL
theorem x_iconst {l : Launch} {D : va_G} {e0 : Nat} {own : String} {cc : ByteArray} {nL : Nat} {ret : Option FieldType} {hh : List (Nat × Nat × Nat × Nat)} {R : Room} {G : xGt} {X : xXt} (B : xB l D e0 own cc nL ret hh R G X) {pc : Nat} {lv : List (Nat × Value)} {st : List Value} {cs : List va_W} {k n : Nat}  {i : Int} (v : Int32) (hdg : decode cc pc = .ok (.iconst i, 1)) (hv : Int32.ofInt i = v) (kk : G (pc + 1) lv (.int v :: st) cs k n) : G pc lv st cs k n := by
  obtain ⟨p, e, s, m, args, below, meth, c, A, Q, rfl, rfl, hx, hb, hml, hown, hts, hret, htab, hZ, hA, hlk, htr⟩ := B
  intro H locs ls hP hD hS hL
  exact lv_iconst hx hb hdg hv (kk H locs ls hP hD hS hL)
theorem x_bipush {l : Launch} {D : va_G} {e0 : Nat} {own : String} {cc : ByteArray} {nL : Nat} {ret : Option FieldType} {hh : List (Nat × Nat × Nat × Nat)} {R : Room} {G : xGt} {X : xXt} (B : xB l D e0 own cc nL ret hh R G X) {pc : Nat} {lv : List (Nat × Value)} {st : List Value} {cs : List va_W} {k n : Nat}  {i : Int} (v : Int32) (hdg : decode cc pc = .ok (.bipush i, 2)) (hv : (Int8.ofInt i).toInt32 = v) (kk : G (pc + 2) lv (.int v :: st) cs k n) : G pc lv st cs k n := by
  obtain ⟨p, e, s, m, args, below, meth, c, A, Q, rfl, rfl, hx, hb, hml, hown, hts, hret, htab, hZ, hA, hlk, htr⟩ := B
  intro H locs ls hP hD hS hL
  exact lv_bipush hx hb hdg hv (kk H locs ls hP hD hS hL)
theorem x_sipush {l : Launch} {D : va_G} {e0 : Nat} {own : String} {cc : ByteArray} {nL : Nat} {ret : Option FieldType} {hh : List (Nat × Nat × Nat × Nat)} {R : Room} {G : xGt} {X : xXt} (B : xB l D e0 own cc nL ret hh R G X) {pc : Nat} {lv : List (Nat × Value)} {st : List Value} {cs : List va_W} {k n : Nat}  {i : Int} (v : Int32) (hdg : decode cc pc = .ok (.sipush i, 3)) (hv : (Int16.ofInt i).toInt32 = v) (kk : G (pc + 3) lv (.int v :: st) cs k n) : G pc lv st cs k n := by
  obtain ⟨p, e, s, m, args, below, meth, c, A, Q, rfl, rfl, hx, hb, hml, hown, hts, hret, htab, hZ, hA, hlk, htr⟩ := B
  intro H locs ls hP hD hS hL
  exact lv_sipush hx hb hdg hv (kk H locs ls hP hD hS hL)
theorem x_ldc {l : Launch} {D : va_G} {e0 : Nat} {own : String} {cc : ByteArray} {nL : Nat} {ret : Option FieldType} {hh : List (Nat × Nat × Nat × Nat)} {R : Room} {G : xGt} {X : xXt} (B : xB l D e0 own cc nL ret hh R G X) {pc : Nat} {lv : List (Nat × Value)} {st : List Value} {cs : List va_W} {k n : Nat}  {index : Nat} {v : Int32} (hw : Cond.constant own index v ∈ lw_tbl) (hdg : decode cc pc = .ok (.ldc index, 2)) (kk : G (pc + 2) lv (.int v :: st) cs k n) : G pc lv st cs k n := by
  obtain ⟨p, e, s, m, args, below, meth, c, A, Q, rfl, rfl, hx, hb, hml, hown, hts, hret, htab, hZ, hA, hlk, htr⟩ := B
  intro H locs ls hP hD hS hL
  exact lv_ldc hx hb hown (hts _ (xT_mem hw rfl)) hdg (kk H locs ls hP hD hS hL)
theorem x_null {l : Launch} {D : va_G} {e0 : Nat} {own : String} {cc : ByteArray} {nL : Nat} {ret : Option FieldType} {hh : List (Nat × Nat × Nat × Nat)} {R : Room} {G : xGt} {X : xXt} (B : xB l D e0 own cc nL ret hh R G X) {pc : Nat} {lv : List (Nat × Value)} {st : List Value} {cs : List va_W} {k n : Nat}  (hdg : decode cc pc = .ok (.aconst_null, 1)) (kk : G (pc + 1) lv (.null :: st) cs k n) : G pc lv st cs k n := by
  obtain ⟨p, e, s, m, args, below, meth, c, A, Q, rfl, rfl, hx, hb, hml, hown, hts, hret, htab, hZ, hA, hlk, htr⟩ := B
  intro H locs ls hP hD hS hL
  exact lv_null hx hb hdg (kk H locs ls hP hD hS hL)
theorem x_iload_n {l : Launch} {D : va_G} {e0 : Nat} {own : String} {cc : ByteArray} {nL : Nat} {ret : Option FieldType} {hh : List (Nat × Nat × Nat × Nat)} {R : Room} {G : xGt} {X : xXt} (B : xB l D e0 own cc nL ret hh R G X) {pc : Nat} {lv : List (Nat × Value)} {st : List Value} {cs : List va_W} {k n : Nat}  {k9 : Fin 4} {i : Nat} {x : Int32} (j : Nat) (hdg : decode cc pc = .ok (.iload_n k9, 1)) (hi : (k9 : Nat) = i) (hl : lv[j]? = some (i, .int x)) (kk : G (pc + 1) lv (.int x :: st) cs k n) : G pc lv st cs k n := by
  obtain ⟨p, e, s, m, args, below, meth, c, A, Q, rfl, rfl, hx, hb, hml, hown, hts, hret, htab, hZ, hA, hlk, htr⟩ := B
  intro H locs ls hP hD hS hL
  exact lv_iload_n hx hb hdg hi (lv_at hL j hl) (kk H locs ls hP hD hS hL)
theorem x_iload {l : Launch} {D : va_G} {e0 : Nat} {own : String} {cc : ByteArray} {nL : Nat} {ret : Option FieldType} {hh : List (Nat × Nat × Nat × Nat)} {R : Room} {G : xGt} {X : xXt} (B : xB l D e0 own cc nL ret hh R G X) {pc : Nat} {lv : List (Nat × Value)} {st : List Value} {cs : List va_W} {k n : Nat}  {i : Nat} {x : Int32} (j : Nat) (hdg : decode cc pc = .ok (.iload i, 2)) (hl : lv[j]? = some (i, .int x)) (kk : G (pc + 2) lv (.int x :: st) cs k n) : G pc lv st cs k n := by
  obtain ⟨p, e, s, m, args, below, meth, c, A, Q, rfl, rfl, hx, hb, hml, hown, hts, hret, htab, hZ, hA, hlk, htr⟩ := B
  intro H locs ls hP hD hS hL
  exact lv_iload hx hb hdg (lv_at hL j hl) (kk H locs ls hP hD hS hL)
theorem x_istore_n {l : Launch} {D : va_G} {e0 : Nat} {own : String} {cc : ByteArray} {nL : Nat} {ret : Option FieldType} {hh : List (Nat × Nat × Nat × Nat)} {R : Room} {G : xGt} {X : xXt} (B : xB l D e0 own cc nL ret hh R G X) {pc : Nat} {lv : List (Nat × Value)} {st : List Value} {cs : List va_W} {k n : Nat}  {k9 : Fin 4} {i : Nat} {x : Int32} (lv1 : List (Nat × Value)) (hdg : decode cc pc = .ok (.istore_n k9, 1)) (hi : (k9 : Nat) = i) (hn : i < nL) (hl : (i, Value.int x) :: lv.filter (fun q => !(q.1 == i) && !(q.1 + 1 == i && q.2.category == 2)) = lv1) (kk : G (pc + 1) lv1 st cs k n) : G pc lv (.int x :: st) cs k n := by
  obtain ⟨p, e, s, m, args, below, meth, c, A, Q, rfl, rfl, hx, hb, hml, hown, hts, hret, htab, hZ, hA, hlk, htr⟩ := B
  intro H locs ls hP hD hS hL
  exact lv_istore_n hx hb hdg hi hL hn hl (fun ls hL => kk H locs ls hP hD hS hL)
theorem x_istore {l : Launch} {D : va_G} {e0 : Nat} {own : String} {cc : ByteArray} {nL : Nat} {ret : Option FieldType} {hh : List (Nat × Nat × Nat × Nat)} {R : Room} {G : xGt} {X : xXt} (B : xB l D e0 own cc nL ret hh R G X) {pc : Nat} {lv : List (Nat × Value)} {st : List Value} {cs : List va_W} {k n : Nat}  {i : Nat} {x : Int32} (lv1 : List (Nat × Value)) (hdg : decode cc pc = .ok (.istore i, 2)) (hn : i < nL) (hl : (i, Value.int x) :: lv.filter (fun q => !(q.1 == i) && !(q.1 + 1 == i && q.2.category == 2)) = lv1) (kk : G (pc + 2) lv1 st cs k n) : G pc lv (.int x :: st) cs k n := by
  obtain ⟨p, e, s, m, args, below, meth, c, A, Q, rfl, rfl, hx, hb, hml, hown, hts, hret, htab, hZ, hA, hlk, htr⟩ := B
  intro H locs ls hP hD hS hL
  exact lv_istore hx hb hdg hL hn hl (fun ls hL => kk H locs ls hP hD hS hL)
theorem x_aload_n {l : Launch} {D : va_G} {e0 : Nat} {own : String} {cc : ByteArray} {nL : Nat} {ret : Option FieldType} {hh : List (Nat × Nat × Nat × Nat)} {R : Room} {G : xGt} {X : xXt} (B : xB l D e0 own cc nL ret hh R G X) {pc : Nat} {lv : List (Nat × Value)} {st : List Value} {cs : List va_W} {k n : Nat}  {k9 : Fin 4} {i : Nat} {x : Nat} (j : Nat) (hdg : decode cc pc = .ok (.aload_n k9, 1)) (hi : (k9 : Nat) = i) (hl : lv[j]? = some (i, .ref x)) (kk : G (pc + 1) lv (.ref x :: st) cs k n) : G pc lv st cs k n := by
  obtain ⟨p, e, s, m, args, below, meth, c, A, Q, rfl, rfl, hx, hb, hml, hown, hts, hret, htab, hZ, hA, hlk, htr⟩ := B
  intro H locs ls hP hD hS hL
  exact lv_aload_n hx hb hdg hi (lv_at hL j hl) (kk H locs ls hP hD hS hL)
theorem x_aload {l : Launch} {D : va_G} {e0 : Nat} {own : String} {cc : ByteArray} {nL : Nat} {ret : Option FieldType} {hh : List (Nat × Nat × Nat × Nat)} {R : Room} {G : xGt} {X : xXt} (B : xB l D e0 own cc nL ret hh R G X) {pc : Nat} {lv : List (Nat × Value)} {st : List Value} {cs : List va_W} {k n : Nat}  {i : Nat} {x : Nat} (j : Nat) (hdg : decode cc pc = .ok (.aload i, 2)) (hl : lv[j]? = some (i, .ref x)) (kk : G (pc + 2) lv (.ref x :: st) cs k n) : G pc lv st cs k n := by
  obtain ⟨p, e, s, m, args, below, meth, c, A, Q, rfl, rfl, hx, hb, hml, hown, hts, hret, htab, hZ, hA, hlk, htr⟩ := B
  intro H locs ls hP hD hS hL
  exact lv_aload hx hb hdg (lv_at hL j hl) (kk H locs ls hP hD hS hL)
theorem x_astore_n {l : Launch} {D : va_G} {e0 : Nat} {own : String} {cc : ByteArray} {nL : Nat} {ret : Option FieldType} {hh : List (Nat × Nat × Nat × Nat)} {R : Room} {G : xGt} {X : xXt} (B : xB l D e0 own cc nL ret hh R G X) {pc : Nat} {lv : List (Nat × Value)} {st : List Value} {cs : List va_W} {k n : Nat}  {k9 : Fin 4} {i : Nat} {x : Nat} (lv1 : List (Nat × Value)) (hdg : decode cc pc = .ok (.astore_n k9, 1)) (hi : (k9 : Nat) = i) (hn : i < nL) (hl : (i, Value.ref x) :: lv.filter (fun q => !(q.1 == i) && !(q.1 + 1 == i && q.2.category == 2)) = lv1) (kk : G (pc + 1) lv1 st cs k n) : G pc lv (.ref x :: st) cs k n := by
  obtain ⟨p, e, s, m, args, below, meth, c, A, Q, rfl, rfl, hx, hb, hml, hown, hts, hret, htab, hZ, hA, hlk, htr⟩ := B
  intro H locs ls hP hD hS hL
  exact lv_astore_n hx hb hdg hi hL hn hl (fun ls hL => kk H locs ls hP hD hS hL)
theorem x_astore {l : Launch} {D : va_G} {e0 : Nat} {own : String} {cc : ByteArray} {nL : Nat} {ret : Option FieldType} {hh : List (Nat × Nat × Nat × Nat)} {R : Room} {G : xGt} {X : xXt} (B : xB l D e0 own cc nL ret hh R G X) {pc : Nat} {lv : List (Nat × Value)} {st : List Value} {cs : List va_W} {k n : Nat}  {i : Nat} {x : Nat} (lv1 : List (Nat × Value)) (hdg : decode cc pc = .ok (.astore i, 2)) (hn : i < nL) (hl : (i, Value.ref x) :: lv.filter (fun q => !(q.1 == i) && !(q.1 + 1 == i && q.2.category == 2)) = lv1) (kk : G (pc + 2) lv1 st cs k n) : G pc lv (.ref x :: st) cs k n := by
  obtain ⟨p, e, s, m, args, below, meth, c, A, Q, rfl, rfl, hx, hb, hml, hown, hts, hret, htab, hZ, hA, hlk, htr⟩ := B
  intro H locs ls hP hD hS hL
  exact lv_astore hx hb hdg hL hn hl (fun ls hL => kk H locs ls hP hD hS hL)
theorem x_aload_nN {l : Launch} {D : va_G} {e0 : Nat} {own : String} {cc : ByteArray} {nL : Nat} {ret : Option FieldType} {hh : List (Nat × Nat × Nat × Nat)} {R : Room} {G : xGt} {X : xXt} (B : xB l D e0 own cc nL ret hh R G X) {pc : Nat} {lv : List (Nat × Value)} {st : List Value} {cs : List va_W} {k n : Nat}  {k9 : Fin 4} {i : Nat} (j : Nat) (hdg : decode cc pc = .ok (.aload_n k9, 1)) (hi : (k9 : Nat) = i) (hl : lv[j]? = some (i, .null)) (kk : G (pc + 1) lv (.null :: st) cs k n) : G pc lv st cs k n := by
  obtain ⟨p, e, s, m, args, below, meth, c, A, Q, rfl, rfl, hx, hb, hml, hown, hts, hret, htab, hZ, hA, hlk, htr⟩ := B
  intro H locs ls hP hD hS hL
  exact lv_aload_nN hx hb hdg hi (lv_at hL j hl) (kk H locs ls hP hD hS hL)
theorem x_iinc {l : Launch} {D : va_G} {e0 : Nat} {own : String} {cc : ByteArray} {nL : Nat} {ret : Option FieldType} {hh : List (Nat × Nat × Nat × Nat)} {R : Room} {G : xGt} {X : xXt} (B : xB l D e0 own cc nL ret hh R G X) {pc : Nat} {lv : List (Nat × Value)} {st : List Value} {cs : List va_W} {k n : Nat}  {i : Nat} {d : Int} {x : Int32} (j : Nat) (v : Int32) (lv1 : List (Nat × Value)) (hdg : decode cc pc = .ok (.iinc i d, 3)) (hl : lv[j]? = some (i, .int x)) (hv : x + Int32.ofInt d = v) (hn : i < nL) (hl1 : (i, Value.int v) :: lv.filter (fun q => !(q.1 == i) && !(q.1 + 1 == i && q.2.category == 2)) = lv1) (kk : G (pc + 3) lv1 st cs k n) : G pc lv st cs k n := by
  obtain ⟨p, e, s, m, args, below, meth, c, A, Q, rfl, rfl, hx, hb, hml, hown, hts, hret, htab, hZ, hA, hlk, htr⟩ := B
  intro H locs ls hP hD hS hL
  exact lv_iinc hx hb hdg hL hl hv hn hl1 (fun ls hL => kk H locs ls hP hD hS hL)
theorem x_iadd {l : Launch} {D : va_G} {e0 : Nat} {own : String} {cc : ByteArray} {nL : Nat} {ret : Option FieldType} {hh : List (Nat × Nat × Nat × Nat)} {R : Room} {G : xGt} {X : xXt} (B : xB l D e0 own cc nL ret hh R G X) {pc : Nat} {lv : List (Nat × Value)} {st : List Value} {cs : List va_W} {k n : Nat}  {x y : Int32} (hdg : decode cc pc = .ok (.iadd, 1)) (kk : G (pc + 1) lv (.int (x + y) :: st) cs k n) : G pc lv (.int y :: .int x :: st) cs k n := by
  obtain ⟨p, e, s, m, args, below, meth, c, A, Q, rfl, rfl, hx, hb, hml, hown, hts, hret, htab, hZ, hA, hlk, htr⟩ := B
  intro H locs ls hP hD hS hL
  exact lv_iadd hx hb hdg (kk H locs ls hP hD hS hL)
theorem x_isub {l : Launch} {D : va_G} {e0 : Nat} {own : String} {cc : ByteArray} {nL : Nat} {ret : Option FieldType} {hh : List (Nat × Nat × Nat × Nat)} {R : Room} {G : xGt} {X : xXt} (B : xB l D e0 own cc nL ret hh R G X) {pc : Nat} {lv : List (Nat × Value)} {st : List Value} {cs : List va_W} {k n : Nat}  {x y : Int32} (hdg : decode cc pc = .ok (.isub, 1)) (kk : G (pc + 1) lv (.int (x - y) :: st) cs k n) : G pc lv (.int y :: .int x :: st) cs k n := by
  obtain ⟨p, e, s, m, args, below, meth, c, A, Q, rfl, rfl, hx, hb, hml, hown, hts, hret, htab, hZ, hA, hlk, htr⟩ := B
  intro H locs ls hP hD hS hL
  exact lv_isub hx hb hdg (kk H locs ls hP hD hS hL)
theorem x_imul {l : Launch} {D : va_G} {e0 : Nat} {own : String} {cc : ByteArray} {nL : Nat} {ret : Option FieldType} {hh : List (Nat × Nat × Nat × Nat)} {R : Room} {G : xGt} {X : xXt} (B : xB l D e0 own cc nL ret hh R G X) {pc : Nat} {lv : List (Nat × Value)} {st : List Value} {cs : List va_W} {k n : Nat}  {x y : Int32} (hdg : decode cc pc = .ok (.imul, 1)) (kk : G (pc + 1) lv (.int (x * y) :: st) cs k n) : G pc lv (.int y :: .int x :: st) cs k n := by
  obtain ⟨p, e, s, m, args, below, meth, c, A, Q, rfl, rfl, hx, hb, hml, hown, hts, hret, htab, hZ, hA, hlk, htr⟩ := B
  intro H locs ls hP hD hS hL
  exact lv_imul hx hb hdg (kk H locs ls hP hD hS hL)
theorem x_iand {l : Launch} {D : va_G} {e0 : Nat} {own : String} {cc : ByteArray} {nL : Nat} {ret : Option FieldType} {hh : List (Nat × Nat × Nat × Nat)} {R : Room} {G : xGt} {X : xXt} (B : xB l D e0 own cc nL ret hh R G X) {pc : Nat} {lv : List (Nat × Value)} {st : List Value} {cs : List va_W} {k n : Nat}  {x y : Int32} (hdg : decode cc pc = .ok (.iand, 1)) (kk : G (pc + 1) lv (.int (x &&& y) :: st) cs k n) : G pc lv (.int y :: .int x :: st) cs k n := by
  obtain ⟨p, e, s, m, args, below, meth, c, A, Q, rfl, rfl, hx, hb, hml, hown, hts, hret, htab, hZ, hA, hlk, htr⟩ := B
  intro H locs ls hP hD hS hL
  exact lv_iand hx hb hdg (kk H locs ls hP hD hS hL)
theorem x_ixor {l : Launch} {D : va_G} {e0 : Nat} {own : String} {cc : ByteArray} {nL : Nat} {ret : Option FieldType} {hh : List (Nat × Nat × Nat × Nat)} {R : Room} {G : xGt} {X : xXt} (B : xB l D e0 own cc nL ret hh R G X) {pc : Nat} {lv : List (Nat × Value)} {st : List Value} {cs : List va_W} {k n : Nat}  {x y : Int32} (hdg : decode cc pc = .ok (.ixor, 1)) (kk : G (pc + 1) lv (.int (x ^^^ y) :: st) cs k n) : G pc lv (.int y :: .int x :: st) cs k n := by
  obtain ⟨p, e, s, m, args, below, meth, c, A, Q, rfl, rfl, hx, hb, hml, hown, hts, hret, htab, hZ, hA, hlk, htr⟩ := B
  intro H locs ls hP hD hS hL
  exact lv_ixor hx hb hdg (kk H locs ls hP hD hS hL)
theorem x_ishr {l : Launch} {D : va_G} {e0 : Nat} {own : String} {cc : ByteArray} {nL : Nat} {ret : Option FieldType} {hh : List (Nat × Nat × Nat × Nat)} {R : Room} {G : xGt} {X : xXt} (B : xB l D e0 own cc nL ret hh R G X) {pc : Nat} {lv : List (Nat × Value)} {st : List Value} {cs : List va_W} {k n : Nat}  {x y : Int32} (hdg : decode cc pc = .ok (.ishr, 1)) (kk : G (pc + 1) lv (.int (x >>> (y &&& 31)) :: st) cs k n) : G pc lv (.int y :: .int x :: st) cs k n := by
  obtain ⟨p, e, s, m, args, below, meth, c, A, Q, rfl, rfl, hx, hb, hml, hown, hts, hret, htab, hZ, hA, hlk, htr⟩ := B
  intro H locs ls hP hD hS hL
  exact lv_ishr hx hb hdg (kk H locs ls hP hD hS hL)
theorem x_irem {l : Launch} {D : va_G} {e0 : Nat} {own : String} {cc : ByteArray} {nL : Nat} {ret : Option FieldType} {hh : List (Nat × Nat × Nat × Nat)} {R : Room} {G : xGt} {X : xXt} (B : xB l D e0 own cc nL ret hh R G X) {pc : Nat} {lv : List (Nat × Value)} {st : List Value} {cs : List va_W} {k n : Nat}  {x y : Int32} (hdg : decode cc pc = .ok (.irem, 1)) (hne : ¬ y = 0) (kk : G (pc + 1) lv (.int (x - x / y * y) :: st) cs k n) : G pc lv (.int y :: .int x :: st) cs k n := by
  obtain ⟨p, e, s, m, args, below, meth, c, A, Q, rfl, rfl, hx, hb, hml, hown, hts, hret, htab, hZ, hA, hlk, htr⟩ := B
  intro H locs ls hP hD hS hL
  exact lv_irem hx hb hdg hne (kk H locs ls hP hD hS hL)
theorem x_idiv {l : Launch} {D : va_G} {e0 : Nat} {own : String} {cc : ByteArray} {nL : Nat} {ret : Option FieldType} {hh : List (Nat × Nat × Nat × Nat)} {R : Room} {G : xGt} {X : xXt} (B : xB l D e0 own cc nL ret hh R G X) {pc : Nat} {lv : List (Nat × Value)} {st : List Value} {cs : List va_W} {k n : Nat}  {x y : Int32} (hdg : decode cc pc = .ok (.idiv, 1)) (hne : ¬ y = 0) (kk : G (pc + 1) lv (.int (x / y) :: st) cs k n) : G pc lv (.int y :: .int x :: st) cs k n := by
  obtain ⟨p, e, s, m, args, below, meth, c, A, Q, rfl, rfl, hx, hb, hml, hown, hts, hret, htab, hZ, hA, hlk, htr⟩ := B
  intro H locs ls hP hD hS hL
  exact lv_idiv hx hb hdg hne (kk H locs ls hP hD hS hL)
theorem x_dup {l : Launch} {D : va_G} {e0 : Nat} {own : String} {cc : ByteArray} {nL : Nat} {ret : Option FieldType} {hh : List (Nat × Nat × Nat × Nat)} {R : Room} {G : xGt} {X : xXt} (B : xB l D e0 own cc nL ret hh R G X) {pc : Nat} {lv : List (Nat × Value)} {st : List Value} {cs : List va_W} {k n : Nat}  {va : Value} (hdg : decode cc pc = .ok (.dup, 1)) (hva : va.category = 1) (kk : G (pc + 1) lv (va :: va :: st) cs k n) : G pc lv (va :: st) cs k n := by
  obtain ⟨p, e, s, m, args, below, meth, c, A, Q, rfl, rfl, hx, hb, hml, hown, hts, hret, htab, hZ, hA, hlk, htr⟩ := B
  intro H locs ls hP hD hS hL
  exact lv_dup hx hb hdg hva (kk H locs ls hP hD hS hL)
theorem x_pop {l : Launch} {D : va_G} {e0 : Nat} {own : String} {cc : ByteArray} {nL : Nat} {ret : Option FieldType} {hh : List (Nat × Nat × Nat × Nat)} {R : Room} {G : xGt} {X : xXt} (B : xB l D e0 own cc nL ret hh R G X) {pc : Nat} {lv : List (Nat × Value)} {st : List Value} {cs : List va_W} {k n : Nat}  {va : Value} (hdg : decode cc pc = .ok (.pop, 1)) (hva : va.category = 1) (kk : G (pc + 1) lv st cs k n) : G pc lv (va :: st) cs k n := by
  obtain ⟨p, e, s, m, args, below, meth, c, A, Q, rfl, rfl, hx, hb, hml, hown, hts, hret, htab, hZ, hA, hlk, htr⟩ := B
  intro H locs ls hP hD hS hL
  exact lv_pop hx hb hdg hva (kk H locs ls hP hD hS hL)
theorem x_dup_x1 {l : Launch} {D : va_G} {e0 : Nat} {own : String} {cc : ByteArray} {nL : Nat} {ret : Option FieldType} {hh : List (Nat × Nat × Nat × Nat)} {R : Room} {G : xGt} {X : xXt} (B : xB l D e0 own cc nL ret hh R G X) {pc : Nat} {lv : List (Nat × Value)} {st : List Value} {cs : List va_W} {k n : Nat}  {va vb : Value} (hdg : decode cc pc = .ok (.dup_x1, 1)) (hva : va.category = 1) (hvb : vb.category = 1) (kk : G (pc + 1) lv (va :: vb :: va :: st) cs k n) : G pc lv (va :: vb :: st) cs k n := by
  obtain ⟨p, e, s, m, args, below, meth, c, A, Q, rfl, rfl, hx, hb, hml, hown, hts, hret, htab, hZ, hA, hlk, htr⟩ := B
  intro H locs ls hP hD hS hL
  exact lv_dup_x1 hx hb hdg hva hvb (kk H locs ls hP hD hS hL)
theorem x_dup2 {l : Launch} {D : va_G} {e0 : Nat} {own : String} {cc : ByteArray} {nL : Nat} {ret : Option FieldType} {hh : List (Nat × Nat × Nat × Nat)} {R : Room} {G : xGt} {X : xXt} (B : xB l D e0 own cc nL ret hh R G X) {pc : Nat} {lv : List (Nat × Value)} {st : List Value} {cs : List va_W} {k n : Nat}  {va vb : Value} (hdg : decode cc pc = .ok (.dup2, 1)) (hva : va.category = 1) (hvb : vb.category = 1) (kk : G (pc + 1) lv (va :: vb :: va :: vb :: st) cs k n) : G pc lv (va :: vb :: st) cs k n := by
  obtain ⟨p, e, s, m, args, below, meth, c, A, Q, rfl, rfl, hx, hb, hml, hown, hts, hret, htab, hZ, hA, hlk, htr⟩ := B
  intro H locs ls hP hD hS hL
  exact lv_dup2_11 hx hb hdg hva hvb (kk H locs ls hP hD hS hL)
theorem x_if_eq {l : Launch} {D : va_G} {e0 : Nat} {own : String} {cc : ByteArray} {nL : Nat} {ret : Option FieldType} {hh : List (Nat × Nat × Nat × Nat)} {R : Room} {G : xGt} {X : xXt} (B : xB l D e0 own cc nL ret hh R G X) {pc : Nat} {lv : List (Nat × Value)} {st : List Value} {cs : List va_W} {k n : Nat}  {x : Int32} {off : Int} (tgt : Nat) (hdg : decode cc pc = .ok (.ifCond .eq off, 3)) (ht : (pc : Int) + off = (tgt : Int)) (kt : x = 0 → G tgt lv st cs k n) (kf : ¬ x = 0 → G (pc + 3) lv st cs k n) : G pc lv (.int x :: st) cs k n := by
  obtain ⟨p, e, s, m, args, below, meth, c, A, Q, rfl, rfl, hx, hb, hml, hown, hts, hret, htab, hZ, hA, hlk, htr⟩ := B
  intro H locs ls hP hD hS hL
  exact lv_if_eq hx hb hdg ht (fun h => kt h H locs ls hP hD hS hL) (fun h => kf h H locs ls hP hD hS hL)
theorem x_icmp_eq {l : Launch} {D : va_G} {e0 : Nat} {own : String} {cc : ByteArray} {nL : Nat} {ret : Option FieldType} {hh : List (Nat × Nat × Nat × Nat)} {R : Room} {G : xGt} {X : xXt} (B : xB l D e0 own cc nL ret hh R G X) {pc : Nat} {lv : List (Nat × Value)} {st : List Value} {cs : List va_W} {k n : Nat}  {x y : Int32} {off : Int} (tgt : Nat) (hdg : decode cc pc = .ok (.if_icmp .eq off, 3)) (ht : (pc : Int) + off = (tgt : Int)) (kt : x = y → G tgt lv st cs k n) (kf : ¬ x = y → G (pc + 3) lv st cs k n) : G pc lv (.int y :: .int x :: st) cs k n := by
  obtain ⟨p, e, s, m, args, below, meth, c, A, Q, rfl, rfl, hx, hb, hml, hown, hts, hret, htab, hZ, hA, hlk, htr⟩ := B
  intro H locs ls hP hD hS hL
  exact lv_icmp_eq hx hb hdg ht (fun h => kt h H locs ls hP hD hS hL) (fun h => kf h H locs ls hP hD hS hL)
theorem x_if_ne {l : Launch} {D : va_G} {e0 : Nat} {own : String} {cc : ByteArray} {nL : Nat} {ret : Option FieldType} {hh : List (Nat × Nat × Nat × Nat)} {R : Room} {G : xGt} {X : xXt} (B : xB l D e0 own cc nL ret hh R G X) {pc : Nat} {lv : List (Nat × Value)} {st : List Value} {cs : List va_W} {k n : Nat}  {x : Int32} {off : Int} (tgt : Nat) (hdg : decode cc pc = .ok (.ifCond .ne off, 3)) (ht : (pc : Int) + off = (tgt : Int)) (kt : ¬ x = 0 → G tgt lv st cs k n) (kf : x = 0 → G (pc + 3) lv st cs k n) : G pc lv (.int x :: st) cs k n := by
  obtain ⟨p, e, s, m, args, below, meth, c, A, Q, rfl, rfl, hx, hb, hml, hown, hts, hret, htab, hZ, hA, hlk, htr⟩ := B
  intro H locs ls hP hD hS hL
  exact lv_if_ne hx hb hdg ht (fun h => kt h H locs ls hP hD hS hL) (fun h => kf h H locs ls hP hD hS hL)
theorem x_icmp_ne {l : Launch} {D : va_G} {e0 : Nat} {own : String} {cc : ByteArray} {nL : Nat} {ret : Option FieldType} {hh : List (Nat × Nat × Nat × Nat)} {R : Room} {G : xGt} {X : xXt} (B : xB l D e0 own cc nL ret hh R G X) {pc : Nat} {lv : List (Nat × Value)} {st : List Value} {cs : List va_W} {k n : Nat}  {x y : Int32} {off : Int} (tgt : Nat) (hdg : decode cc pc = .ok (.if_icmp .ne off, 3)) (ht : (pc : Int) + off = (tgt : Int)) (kt : ¬ x = y → G tgt lv st cs k n) (kf : x = y → G (pc + 3) lv st cs k n) : G pc lv (.int y :: .int x :: st) cs k n := by
  obtain ⟨p, e, s, m, args, below, meth, c, A, Q, rfl, rfl, hx, hb, hml, hown, hts, hret, htab, hZ, hA, hlk, htr⟩ := B
  intro H locs ls hP hD hS hL
  exact lv_icmp_ne hx hb hdg ht (fun h => kt h H locs ls hP hD hS hL) (fun h => kf h H locs ls hP hD hS hL)
theorem x_if_lt {l : Launch} {D : va_G} {e0 : Nat} {own : String} {cc : ByteArray} {nL : Nat} {ret : Option FieldType} {hh : List (Nat × Nat × Nat × Nat)} {R : Room} {G : xGt} {X : xXt} (B : xB l D e0 own cc nL ret hh R G X) {pc : Nat} {lv : List (Nat × Value)} {st : List Value} {cs : List va_W} {k n : Nat}  {x : Int32} {off : Int} (tgt : Nat) (hdg : decode cc pc = .ok (.ifCond .lt off, 3)) (ht : (pc : Int) + off = (tgt : Int)) (kt : x < 0 → G tgt lv st cs k n) (kf : ¬ x < 0 → G (pc + 3) lv st cs k n) : G pc lv (.int x :: st) cs k n := by
  obtain ⟨p, e, s, m, args, below, meth, c, A, Q, rfl, rfl, hx, hb, hml, hown, hts, hret, htab, hZ, hA, hlk, htr⟩ := B
  intro H locs ls hP hD hS hL
  exact lv_if_lt hx hb hdg ht (fun h => kt h H locs ls hP hD hS hL) (fun h => kf h H locs ls hP hD hS hL)
theorem x_icmp_lt {l : Launch} {D : va_G} {e0 : Nat} {own : String} {cc : ByteArray} {nL : Nat} {ret : Option FieldType} {hh : List (Nat × Nat × Nat × Nat)} {R : Room} {G : xGt} {X : xXt} (B : xB l D e0 own cc nL ret hh R G X) {pc : Nat} {lv : List (Nat × Value)} {st : List Value} {cs : List va_W} {k n : Nat}  {x y : Int32} {off : Int} (tgt : Nat) (hdg : decode cc pc = .ok (.if_icmp .lt off, 3)) (ht : (pc : Int) + off = (tgt : Int)) (kt : x < y → G tgt lv st cs k n) (kf : ¬ x < y → G (pc + 3) lv st cs k n) : G pc lv (.int y :: .int x :: st) cs k n := by
  obtain ⟨p, e, s, m, args, below, meth, c, A, Q, rfl, rfl, hx, hb, hml, hown, hts, hret, htab, hZ, hA, hlk, htr⟩ := B
  intro H locs ls hP hD hS hL
  exact lv_icmp_lt hx hb hdg ht (fun h => kt h H locs ls hP hD hS hL) (fun h => kf h H locs ls hP hD hS hL)
theorem x_if_ge {l : Launch} {D : va_G} {e0 : Nat} {own : String} {cc : ByteArray} {nL : Nat} {ret : Option FieldType} {hh : List (Nat × Nat × Nat × Nat)} {R : Room} {G : xGt} {X : xXt} (B : xB l D e0 own cc nL ret hh R G X) {pc : Nat} {lv : List (Nat × Value)} {st : List Value} {cs : List va_W} {k n : Nat}  {x : Int32} {off : Int} (tgt : Nat) (hdg : decode cc pc = .ok (.ifCond .ge off, 3)) (ht : (pc : Int) + off = (tgt : Int)) (kt : 0 ≤ x → G tgt lv st cs k n) (kf : ¬ 0 ≤ x → G (pc + 3) lv st cs k n) : G pc lv (.int x :: st) cs k n := by
  obtain ⟨p, e, s, m, args, below, meth, c, A, Q, rfl, rfl, hx, hb, hml, hown, hts, hret, htab, hZ, hA, hlk, htr⟩ := B
  intro H locs ls hP hD hS hL
  exact lv_if_ge hx hb hdg ht (fun h => kt h H locs ls hP hD hS hL) (fun h => kf h H locs ls hP hD hS hL)
theorem x_icmp_ge {l : Launch} {D : va_G} {e0 : Nat} {own : String} {cc : ByteArray} {nL : Nat} {ret : Option FieldType} {hh : List (Nat × Nat × Nat × Nat)} {R : Room} {G : xGt} {X : xXt} (B : xB l D e0 own cc nL ret hh R G X) {pc : Nat} {lv : List (Nat × Value)} {st : List Value} {cs : List va_W} {k n : Nat}  {x y : Int32} {off : Int} (tgt : Nat) (hdg : decode cc pc = .ok (.if_icmp .ge off, 3)) (ht : (pc : Int) + off = (tgt : Int)) (kt : y ≤ x → G tgt lv st cs k n) (kf : ¬ y ≤ x → G (pc + 3) lv st cs k n) : G pc lv (.int y :: .int x :: st) cs k n := by
  obtain ⟨p, e, s, m, args, below, meth, c, A, Q, rfl, rfl, hx, hb, hml, hown, hts, hret, htab, hZ, hA, hlk, htr⟩ := B
  intro H locs ls hP hD hS hL
  exact lv_icmp_ge hx hb hdg ht (fun h => kt h H locs ls hP hD hS hL) (fun h => kf h H locs ls hP hD hS hL)
theorem x_if_gt {l : Launch} {D : va_G} {e0 : Nat} {own : String} {cc : ByteArray} {nL : Nat} {ret : Option FieldType} {hh : List (Nat × Nat × Nat × Nat)} {R : Room} {G : xGt} {X : xXt} (B : xB l D e0 own cc nL ret hh R G X) {pc : Nat} {lv : List (Nat × Value)} {st : List Value} {cs : List va_W} {k n : Nat}  {x : Int32} {off : Int} (tgt : Nat) (hdg : decode cc pc = .ok (.ifCond .gt off, 3)) (ht : (pc : Int) + off = (tgt : Int)) (kt : 0 < x → G tgt lv st cs k n) (kf : ¬ 0 < x → G (pc + 3) lv st cs k n) : G pc lv (.int x :: st) cs k n := by
  obtain ⟨p, e, s, m, args, below, meth, c, A, Q, rfl, rfl, hx, hb, hml, hown, hts, hret, htab, hZ, hA, hlk, htr⟩ := B
  intro H locs ls hP hD hS hL
  exact lv_if_gt hx hb hdg ht (fun h => kt h H locs ls hP hD hS hL) (fun h => kf h H locs ls hP hD hS hL)
theorem x_icmp_gt {l : Launch} {D : va_G} {e0 : Nat} {own : String} {cc : ByteArray} {nL : Nat} {ret : Option FieldType} {hh : List (Nat × Nat × Nat × Nat)} {R : Room} {G : xGt} {X : xXt} (B : xB l D e0 own cc nL ret hh R G X) {pc : Nat} {lv : List (Nat × Value)} {st : List Value} {cs : List va_W} {k n : Nat}  {x y : Int32} {off : Int} (tgt : Nat) (hdg : decode cc pc = .ok (.if_icmp .gt off, 3)) (ht : (pc : Int) + off = (tgt : Int)) (kt : y < x → G tgt lv st cs k n) (kf : ¬ y < x → G (pc + 3) lv st cs k n) : G pc lv (.int y :: .int x :: st) cs k n := by
  obtain ⟨p, e, s, m, args, below, meth, c, A, Q, rfl, rfl, hx, hb, hml, hown, hts, hret, htab, hZ, hA, hlk, htr⟩ := B
  intro H locs ls hP hD hS hL
  exact lv_icmp_gt hx hb hdg ht (fun h => kt h H locs ls hP hD hS hL) (fun h => kf h H locs ls hP hD hS hL)
theorem x_if_le {l : Launch} {D : va_G} {e0 : Nat} {own : String} {cc : ByteArray} {nL : Nat} {ret : Option FieldType} {hh : List (Nat × Nat × Nat × Nat)} {R : Room} {G : xGt} {X : xXt} (B : xB l D e0 own cc nL ret hh R G X) {pc : Nat} {lv : List (Nat × Value)} {st : List Value} {cs : List va_W} {k n : Nat}  {x : Int32} {off : Int} (tgt : Nat) (hdg : decode cc pc = .ok (.ifCond .le off, 3)) (ht : (pc : Int) + off = (tgt : Int)) (kt : x ≤ 0 → G tgt lv st cs k n) (kf : ¬ x ≤ 0 → G (pc + 3) lv st cs k n) : G pc lv (.int x :: st) cs k n := by
  obtain ⟨p, e, s, m, args, below, meth, c, A, Q, rfl, rfl, hx, hb, hml, hown, hts, hret, htab, hZ, hA, hlk, htr⟩ := B
  intro H locs ls hP hD hS hL
  exact lv_if_le hx hb hdg ht (fun h => kt h H locs ls hP hD hS hL) (fun h => kf h H locs ls hP hD hS hL)
theorem x_icmp_le {l : Launch} {D : va_G} {e0 : Nat} {own : String} {cc : ByteArray} {nL : Nat} {ret : Option FieldType} {hh : List (Nat × Nat × Nat × Nat)} {R : Room} {G : xGt} {X : xXt} (B : xB l D e0 own cc nL ret hh R G X) {pc : Nat} {lv : List (Nat × Value)} {st : List Value} {cs : List va_W} {k n : Nat}  {x y : Int32} {off : Int} (tgt : Nat) (hdg : decode cc pc = .ok (.if_icmp .le off, 3)) (ht : (pc : Int) + off = (tgt : Int)) (kt : x ≤ y → G tgt lv st cs k n) (kf : ¬ x ≤ y → G (pc + 3) lv st cs k n) : G pc lv (.int y :: .int x :: st) cs k n := by
  obtain ⟨p, e, s, m, args, below, meth, c, A, Q, rfl, rfl, hx, hb, hml, hown, hts, hret, htab, hZ, hA, hlk, htr⟩ := B
  intro H locs ls hP hD hS hL
  exact lv_icmp_le hx hb hdg ht (fun h => kt h H locs ls hP hD hS hL) (fun h => kf h H locs ls hP hD hS hL)
theorem x_goto {l : Launch} {D : va_G} {e0 : Nat} {own : String} {cc : ByteArray} {nL : Nat} {ret : Option FieldType} {hh : List (Nat × Nat × Nat × Nat)} {R : Room} {G : xGt} {X : xXt} (B : xB l D e0 own cc nL ret hh R G X) {pc : Nat} {lv : List (Nat × Value)} {st : List Value} {cs : List va_W} {k n : Nat}  {off : Int} (tgt : Nat) (hdg : decode cc pc = .ok (.goto off, 3)) (ht : (pc : Int) + off = (tgt : Int)) (kk : G tgt lv st cs k n) : G pc lv st cs k n := by
  obtain ⟨p, e, s, m, args, below, meth, c, A, Q, rfl, rfl, hx, hb, hml, hown, hts, hret, htab, hZ, hA, hlk, htr⟩ := B
  intro H locs ls hP hD hS hL
  exact lv_goto hx hb hdg ht (kk H locs ls hP hD hS hL)
theorem x_acmp_eq {l : Launch} {D : va_G} {e0 : Nat} {own : String} {cc : ByteArray} {nL : Nat} {ret : Option FieldType} {hh : List (Nat × Nat × Nat × Nat)} {R : Room} {G : xGt} {X : xXt} (B : xB l D e0 own cc nL ret hh R G X) {pc : Nat} {lv : List (Nat × Value)} {st : List Value} {cs : List va_W} {k n : Nat}  {a b : Nat} {off : Int} (tgt : Nat) (hdg : decode cc pc = .ok (.if_acmp .eq off, 3)) (ht : (pc : Int) + off = (tgt : Int)) (kt : some a = some b → G tgt lv st cs k n) (kf : ¬ some a = some b → G (pc + 3) lv st cs k n) : G pc lv (.ref b :: .ref a :: st) cs k n := by
  obtain ⟨p, e, s, m, args, below, meth, c, A, Q, rfl, rfl, hx, hb, hml, hown, hts, hret, htab, hZ, hA, hlk, htr⟩ := B
  intro H locs ls hP hD hS hL
  exact lv_acmp_eq (rx := some a) (ry := some b) hx hb hdg ht (fun h => kt h H locs ls hP hD hS hL) (fun h => kf h H locs ls hP hD hS hL)
theorem x_acmp_ne {l : Launch} {D : va_G} {e0 : Nat} {own : String} {cc : ByteArray} {nL : Nat} {ret : Option FieldType} {hh : List (Nat × Nat × Nat × Nat)} {R : Room} {G : xGt} {X : xXt} (B : xB l D e0 own cc nL ret hh R G X) {pc : Nat} {lv : List (Nat × Value)} {st : List Value} {cs : List va_W} {k n : Nat}  {a b : Nat} {off : Int} (tgt : Nat) (hdg : decode cc pc = .ok (.if_acmp .ne off, 3)) (ht : (pc : Int) + off = (tgt : Int)) (kt : ¬ some a = some b → G tgt lv st cs k n) (kf : some a = some b → G (pc + 3) lv st cs k n) : G pc lv (.ref b :: .ref a :: st) cs k n := by
  obtain ⟨p, e, s, m, args, below, meth, c, A, Q, rfl, rfl, hx, hb, hml, hown, hts, hret, htab, hZ, hA, hlk, htr⟩ := B
  intro H locs ls hP hD hS hL
  exact lv_acmp_ne (rx := some a) (ry := some b) hx hb hdg ht (fun h => kt h H locs ls hP hD hS hL) (fun h => kf h H locs ls hP hD hS hL)
theorem x_i2l {l : Launch} {D : va_G} {e0 : Nat} {own : String} {cc : ByteArray} {nL : Nat} {ret : Option FieldType} {hh : List (Nat × Nat × Nat × Nat)} {R : Room} {G : xGt} {X : xXt} (B : xB l D e0 own cc nL ret hh R G X) {pc : Nat} {lv : List (Nat × Value)} {st : List Value} {cs : List va_W} {k n : Nat}  {x : Int32} (hdg : decode cc pc = .ok (.i2l, 1)) (kk : G (pc + 1) lv (.long x.toInt64 :: st) cs k n) : G pc lv (.int x :: st) cs k n := by
  obtain ⟨p, e, s, m, args, below, meth, c, A, Q, rfl, rfl, hx, hb, hml, hown, hts, hret, htab, hZ, hA, hlk, htr⟩ := B
  intro H locs ls hP hD hS hL
  exact lv_i2l hx hb hdg rfl (kk H locs ls hP hD hS hL)
theorem x_lcmp {l : Launch} {D : va_G} {e0 : Nat} {own : String} {cc : ByteArray} {nL : Nat} {ret : Option FieldType} {hh : List (Nat × Nat × Nat × Nat)} {R : Room} {G : xGt} {X : xXt} (B : xB l D e0 own cc nL ret hh R G X) {pc : Nat} {lv : List (Nat × Value)} {st : List Value} {cs : List va_W} {k n : Nat}  {x y : Int64} (hdg : decode cc pc = .ok (.lcmp, 1)) (kk : G (pc + 1) lv (.int (lg_cmp x y) :: st) cs k n) : G pc lv (.long y :: .long x :: st) cs k n := by
  obtain ⟨p, e, s, m, args, below, meth, c, A, Q, rfl, rfl, hx, hb, hml, hown, hts, hret, htab, hZ, hA, hlk, htr⟩ := B
  intro H locs ls hP hD hS hL
  exact W.lcmp hx hb hdg (kk H locs ls hP hD hS hL)
/-- a class of the worlds, by the tables -/
def xCl (ci : Nat) (C : String) (T : u_T) (N : Nat) (ty : Nat → FieldType) : Prop := vwCl[ci]? = some (C, T, N) ∧ (∀ w ∈ u_ws C T N, w ∈ xT) ∧ (∀ k, k < N → parseFieldDescriptor (T k).2.2.1 = some (ty k)) ∧ ∀ a, a < N → ∀ b, b < N → a ≠ b → (T a).2.1 ≠ (T b).2.1
theorem x_get {l : Launch} {D : va_G} {e0 : Nat} {own : String} {cc : ByteArray} {nL : Nat} {ret : Option FieldType} {hh : List (Nat × Nat × Nat × Nat)} {R : Room} {G : xGt} {X : xXt} (B : xB l D e0 own cc nL ret hh R G X) {pc : Nat} {lv : List (Nat × Value)} {st : List Value} {cs : List va_W} {k n : Nat} {ci : Nat} {C : String} {T : u_T} {N : Nat} {ty : Nat → FieldType}  {a index : Nat} {ref : String} {fs : List Value} {v : Value} {ch : va_W} (hc : xCl ci C T N ty) (i j f : Nat) (hi : cs[i]? = some ch) (hj : ch[j]? = some (a, .inr (ci, fs))) (hf : f < N) (hw : Cond.fieldLink own index ref (T f).2.1 (T f).2.2.1 ∈ lw_tbl) (hr : (T f).1 = ref) (hv : fs[f]? = some v) (hdg : decode cc pc = .ok (.getfield index, 3)) (kk : G (pc + 3) lv (v :: st) cs k n) : G pc lv (.ref a :: st) cs k n := by
  obtain ⟨p, e, s, m, args, below, meth, c, A, Q, rfl, rfl, hx, hb, hml, hown, hts, hret, htab, hZ, hA, hlk, htr⟩ := B
  intro H locs ls hP hD hS hL
  subst hr
  obtain ⟨q0, hq⟩ := xfl_mem hi hj
  exact va_get hx hb hts hc.2.1 hown hZ.1 hP q0 hq hc.1 f hf (hts _ (xT_mem hw rfl)) (fun _ h => h) hv hdg (kk H locs ls hP hD hS hL)
theorem x_getS {l : Launch} {D : va_G} {e0 : Nat} {own : String} {cc : ByteArray} {nL : Nat} {ret : Option FieldType} {hh : List (Nat × Nat × Nat × Nat)} {R : Room} {G : xGt} {X : xXt} (B : xB l D e0 own cc nL ret hh R G X) {pc : Nat} {lv : List (Nat × Value)} {st : List Value} {cs : List va_W} {k n : Nat} {ci : Nat} {C : String} {T : u_T} {N : Nat} {ty : Nat → FieldType}  {a index : Nat} {ref : String} {fs : List Value} {v : Value} {ch : va_W} (hc : xCl ci C T N ty) (i j f : Nat) (hi : cs[i]? = some ch) (hj : ch[j]? = some (a, .inr (ci, fs))) (hf : f < N) (hw : Cond.fieldLink own index ref (T f).2.1 (T f).2.2.1 ∈ lw_tbl) (hw2 : Cond.sameField ref (T f).1 (T f).2.1 (T f).2.2.1 ∈ lw_tbl) (hv : fs[f]? = some v) (hdg : decode cc pc = .ok (.getfield index, 3)) (kk : G (pc + 3) lv (v :: st) cs k n) : G pc lv (.ref a :: st) cs k n := by
  obtain ⟨p, e, s, m, args, below, meth, c, A, Q, rfl, rfl, hx, hb, hml, hown, hts, hret, htab, hZ, hA, hlk, htr⟩ := B
  intro H locs ls hP hD hS hL
  obtain ⟨q0, hq⟩ := xfl_mem hi hj
  exact va_get hx hb hts hc.2.1 hown hZ.1 hP q0 hq hc.1 f hf (hts _ (xT_mem hw rfl)) (u_same (hts _ (xT_mem hw2 rfl))) hv hdg (kk H locs ls hP hD hS hL)
theorem x_put {l : Launch} {D : va_G} {e0 : Nat} {own : String} {cc : ByteArray} {nL : Nat} {ret : Option FieldType} {hh : List (Nat × Nat × Nat × Nat)} {R : Room} {G : xGt} {X : xXt} (B : xB l D e0 own cc nL ret hh R G X) {pc : Nat} {lv : List (Nat × Value)} {st : List Value} {cs : List va_W} {k n : Nat} {ci : Nat} {C : String} {T : u_T} {N : Nat} {ty : Nat → FieldType}  {a index : Nat} {ref : String} {fs : List Value} {v : Value} {t0 : FieldType} {ch ch1 : va_W} (hc : xCl ci C T N ty) (i j f : Nat) (cs1 : List va_W) (hi : cs[i]? = some ch) (hj : ch[j]? = some (a, .inr (ci, fs))) (hf : f < N) (hw : Cond.fieldLink own index ref (T f).2.1 (T f).2.2.1 ∈ lw_tbl) (hr : (T f).1 = ref) (hfin : (T f).2.2.2 = false) (ht : ty f = t0) (hna : narrow t0 v = v) (hfi : fits t0 v = true) (hl : f < fs.length) (hs : ch.set j (a, .inr (ci, fs.set f v)) = ch1) (hcs : cs.set i ch1 = cs1) (hdg : decode cc pc = .ok (.putfield index, 3)) (kk : G (pc + 3) lv st cs1 k n) : G pc lv (v :: .ref a :: st) cs k n := by
  obtain ⟨p, e, s, m, args, below, meth, c, A, Q, rfl, rfl, hx, hb, hml, hown, hts, hret, htab, hZ, hA, hlk, htr⟩ := B
  intro H locs ls hP hD hS hL
  subst hr
  subst ht
  subst hs
  subst hcs
  obtain ⟨q0, hq, hset⟩ := xfl_at hi hj
  refine va_put hx hb hts hc.2.1 ty hc.2.2.1 hc.2.2.2 hown hZ.1 hP hD hS q0 hq hc.1 f hf (hts _ (xT_mem hw rfl)) (fun _ h => h) hfin (hc.2.2.1 f hf) hna hfi hl hdg (fun H1 locs1 hP1 hD1 hS1 => ?_)
  rw [hset] at hP1 hD1
  exact kk H1 locs1 ls hP1 hD1 hS1 hL
theorem x_putS {l : Launch} {D : va_G} {e0 : Nat} {own : String} {cc : ByteArray} {nL : Nat} {ret : Option FieldType} {hh : List (Nat × Nat × Nat × Nat)} {R : Room} {G : xGt} {X : xXt} (B : xB l D e0 own cc nL ret hh R G X) {pc : Nat} {lv : List (Nat × Value)} {st : List Value} {cs : List va_W} {k n : Nat} {ci : Nat} {C : String} {T : u_T} {N : Nat} {ty : Nat → FieldType}  {a index : Nat} {ref : String} {fs : List Value} {v : Value} {t0 : FieldType} {ch ch1 : va_W} (hc : xCl ci C T N ty) (i j f : Nat) (cs1 : List va_W) (hi : cs[i]? = some ch) (hj : ch[j]? = some (a, .inr (ci, fs))) (hf : f < N) (hw : Cond.fieldLink own index ref (T f).2.1 (T f).2.2.1 ∈ lw_tbl) (hw2 : Cond.sameField ref (T f).1 (T f).2.1 (T f).2.2.1 ∈ lw_tbl) (hfin : (T f).2.2.2 = false) (ht : ty f = t0) (hna : narrow t0 v = v) (hfi : fits t0 v = true) (hl : f < fs.length) (hs : ch.set j (a, .inr (ci, fs.set f v)) = ch1) (hcs : cs.set i ch1 = cs1) (hdg : decode cc pc = .ok (.putfield index, 3)) (kk : G (pc + 3) lv st cs1 k n) : G pc lv (v :: .ref a :: st) cs k n := by
  obtain ⟨p, e, s, m, args, below, meth, c, A, Q, rfl, rfl, hx, hb, hml, hown, hts, hret, htab, hZ, hA, hlk, htr⟩ := B
  intro H locs ls hP hD hS hL
  subst ht
  subst hs
  subst hcs
  obtain ⟨q0, hq, hset⟩ := xfl_at hi hj
  refine va_put hx hb hts hc.2.1 ty hc.2.2.1 hc.2.2.2 hown hZ.1 hP hD hS q0 hq hc.1 f hf (hts _ (xT_mem hw rfl)) (u_same (hts _ (xT_mem hw2 rfl))) hfin (hc.2.2.1 f hf) hna hfi hl hdg (fun H1 locs1 hP1 hD1 hS1 => ?_)
  rw [hset] at hP1 hD1
  exact kk H1 locs1 ls hP1 hD1 hS1 hL
theorem x_iald {l : Launch} {D : va_G} {e0 : Nat} {own : String} {cc : ByteArray} {nL : Nat} {ret : Option FieldType} {hh : List (Nat × Nat × Nat × Nat)} {R : Room} {G : xGt} {X : xXt} (B : xB l D e0 own cc nL ret hh R G X) {pc : Nat} {lv : List (Nat × Value)} {st : List Value} {cs : List va_W} {k n : Nat}  {a m0 : Nat} {f0 : Nat → Int32} {ix : Int32} {ch : va_W} (i j : Nat) (hi : cs[i]? = some ch) (hj : ch[j]? = some (a, .inl (D.1 10, m0, .inl f0))) (hin : vp_in ix m0) (hdg : decode cc pc = .ok (.iaload, 1)) (kk : G (pc + 1) lv (.int (f0 ix.toNatClampNeg) :: st) cs k n) : G pc lv (.int ix :: .ref a :: st) cs k n := by
  obtain ⟨p, e, s, m, args, below, meth, c, A, Q, rfl, rfl, hx, hb, hml, hown, hts, hret, htab, hZ, hA, hlk, htr⟩ := B
  intro H locs ls hP hD hS hL
  obtain ⟨q0, hq⟩ := xfl_mem hi hj
  exact va_iald hx hb hZ.1 hP q0 0 hq rfl hin hdg (kk H locs ls hP hD hS hL)
theorem x_zald {l : Launch} {D : va_G} {e0 : Nat} {own : String} {cc : ByteArray} {nL : Nat} {ret : Option FieldType} {hh : List (Nat × Nat × Nat × Nat)} {R : Room} {G : xGt} {X : xXt} (B : xB l D e0 own cc nL ret hh R G X) {pc : Nat} {lv : List (Nat × Value)} {st : List Value} {cs : List va_W} {k n : Nat}  {a m0 : Nat} {f0 : Nat → Int32} {ix : Int32} {ch : va_W} (i j : Nat) (hi : cs[i]? = some ch) (hj : ch[j]? = some (a, .inl (D.1 11, m0, .inl f0))) (hin : vp_in ix m0) (hdg : decode cc pc = .ok (.baload, 1)) (kk : G (pc + 1) lv (.int (f0 ix.toNatClampNeg) :: st) cs k n) : G pc lv (.int ix :: .ref a :: st) cs k n := by
  obtain ⟨p, e, s, m, args, below, meth, c, A, Q, rfl, rfl, hx, hb, hml, hown, hts, hret, htab, hZ, hA, hlk, htr⟩ := B
  intro H locs ls hP hD hS hL
  obtain ⟨q0, hq⟩ := xfl_mem hi hj
  exact va_zald hx hb hZ.1 hP q0 1 hq rfl hin hdg (kk H locs ls hP hD hS hL)
theorem x_lald {l : Launch} {D : va_G} {e0 : Nat} {own : String} {cc : ByteArray} {nL : Nat} {ret : Option FieldType} {hh : List (Nat × Nat × Nat × Nat)} {R : Room} {G : xGt} {X : xXt} (B : xB l D e0 own cc nL ret hh R G X) {pc : Nat} {lv : List (Nat × Value)} {st : List Value} {cs : List va_W} {k n : Nat}  {a m0 : Nat} {f0 : Nat → Int64} {ix : Int32} {ch : va_W} (i j : Nat) (hi : cs[i]? = some ch) (hj : ch[j]? = some (a, .inl (D.1 12, m0, .inr (.inl f0)))) (hin : vp_in ix m0) (hdg : decode cc pc = .ok (.laload, 1)) (kk : G (pc + 1) lv (.long (f0 ix.toNatClampNeg) :: st) cs k n) : G pc lv (.int ix :: .ref a :: st) cs k n := by
  obtain ⟨p, e, s, m, args, below, meth, c, A, Q, rfl, rfl, hx, hb, hml, hown, hts, hret, htab, hZ, hA, hlk, htr⟩ := B
  intro H locs ls hP hD hS hL
  obtain ⟨q0, hq⟩ := xfl_mem hi hj
  exact va_lald hx hb hZ.1 hP q0 2 hq rfl hin hdg (kk H locs ls hP hD hS hL)
theorem x_kald {l : Launch} {D : va_G} {e0 : Nat} {own : String} {cc : ByteArray} {nL : Nat} {ret : Option FieldType} {hh : List (Nat × Nat × Nat × Nat)} {R : Room} {G : xGt} {X : xXt} (B : xB l D e0 own cc nL ret hh R G X) {pc : Nat} {lv : List (Nat × Value)} {st : List Value} {cs : List va_W} {k n : Nat}  {a m0 : Nat} {f0 : Nat → Option Nat} {ix : Int32} {ch : va_W} (i j : Nat) (hi : cs[i]? = some ch) (hj : ch[j]? = some (a, .inl (D.1 13, m0, .inr (.inr (.inr (.inr f0)))))) (hin : vp_in ix m0) (hdg : decode cc pc = .ok (.aaload, 1)) (kk : G (pc + 1) lv (va_rf (f0 ix.toNatClampNeg) :: st) cs k n) : G pc lv (.int ix :: .ref a :: st) cs k n := by
  obtain ⟨p, e, s, m, args, below, meth, c, A, Q, rfl, rfl, hx, hb, hml, hown, hts, hret, htab, hZ, hA, hlk, htr⟩ := B
  intro H locs ls hP hD hS hL
  obtain ⟨q0, hq⟩ := xfl_mem hi hj
  exact va_aldq hx hb hZ.1 hP q0 3 hq rfl hin hdg (kk H locs ls hP hD hS hL)
theorem x_oald {l : Launch} {D : va_G} {e0 : Nat} {own : String} {cc : ByteArray} {nL : Nat} {ret : Option FieldType} {hh : List (Nat × Nat × Nat × Nat)} {R : Room} {G : xGt} {X : xXt} (B : xB l D e0 own cc nL ret hh R G X) {pc : Nat} {lv : List (Nat × Value)} {st : List Value} {cs : List va_W} {k n : Nat}  {a m0 : Nat} {f0 : Nat → Option Nat} {ix : Int32} {ch : va_W} (i j : Nat) (hi : cs[i]? = some ch) (hj : ch[j]? = some (a, .inl (D.1 14, m0, .inr (.inr (.inr (.inr f0)))))) (hin : vp_in ix m0) (hdg : decode cc pc = .ok (.aaload, 1)) (kk : G (pc + 1) lv (va_rf (f0 ix.toNatClampNeg) :: st) cs k n) : G pc lv (.int ix :: .ref a :: st) cs k n := by
  obtain ⟨p, e, s, m, args, below, meth, c, A, Q, rfl, rfl, hx, hb, hml, hown, hts, hret, htab, hZ, hA, hlk, htr⟩ := B
  intro H locs ls hP hD hS hL
  obtain ⟨q0, hq⟩ := xfl_mem hi hj
  exact va_aldq hx hb hZ.1 hP q0 4 hq rfl hin hdg (kk H locs ls hP hD hS hL)
theorem x_iast {l : Launch} {D : va_G} {e0 : Nat} {own : String} {cc : ByteArray} {nL : Nat} {ret : Option FieldType} {hh : List (Nat × Nat × Nat × Nat)} {R : Room} {G : xGt} {X : xXt} (B : xB l D e0 own cc nL ret hh R G X) {pc : Nat} {lv : List (Nat × Value)} {st : List Value} {cs : List va_W} {k n : Nat}  {a m0 : Nat} {f0 : Nat → Int32} {ix : Int32} {x : Int32} {ch ch1 : va_W} (i j : Nat) (cs1 : List va_W) (hi : cs[i]? = some ch) (hj : ch[j]? = some (a, .inl (D.1 10, m0, .inl f0))) (hin : vp_in ix m0) (hs : ch.set j (a, .inl (D.1 10, m0, .inl (upd f0 ix.toNatClampNeg x))) = ch1) (hcs : cs.set i ch1 = cs1) (hdg : decode cc pc = .ok (.iastore, 1)) (kk : G (pc + 1) lv st cs1 k n) : G pc lv (.int x :: .int ix :: .ref a :: st) cs k n := by
  obtain ⟨p, e, s, m, args, below, meth, c, A, Q, rfl, rfl, hx, hb, hml, hown, hts, hret, htab, hZ, hA, hlk, htr⟩ := B
  intro H locs ls hP hD hS hL
  subst hs
  subst hcs
  obtain ⟨q0, hq, hset⟩ := xfl_at hi hj
  refine va_iast hx hb hZ.1 hP hD hS q0 0 hq rfl hin hdg (fun H1 locs1 hP1 hD1 hS1 => ?_)
  rw [hset] at hP1 hD1
  exact kk H1 locs1 ls hP1 hD1 hS1 hL
theorem x_last {l : Launch} {D : va_G} {e0 : Nat} {own : String} {cc : ByteArray} {nL : Nat} {ret : Option FieldType} {hh : List (Nat × Nat × Nat × Nat)} {R : Room} {G : xGt} {X : xXt} (B : xB l D e0 own cc nL ret hh R G X) {pc : Nat} {lv : List (Nat × Value)} {st : List Value} {cs : List va_W} {k n : Nat}  {a m0 : Nat} {f0 : Nat → Int64} {ix : Int32} {x : Int64} {ch ch1 : va_W} (i j : Nat) (cs1 : List va_W) (hi : cs[i]? = some ch) (hj : ch[j]? = some (a, .inl (D.1 12, m0, .inr (.inl f0)))) (hin : vp_in ix m0) (hs : ch.set j (a, .inl (D.1 12, m0, .inr (.inl (vp_updL f0 ix.toNatClampNeg x)))) = ch1) (hcs : cs.set i ch1 = cs1) (hdg : decode cc pc = .ok (.lastore, 1)) (kk : G (pc + 1) lv st cs1 k n) : G pc lv (.long x :: .int ix :: .ref a :: st) cs k n := by
  obtain ⟨p, e, s, m, args, below, meth, c, A, Q, rfl, rfl, hx, hb, hml, hown, hts, hret, htab, hZ, hA, hlk, htr⟩ := B
  intro H locs ls hP hD hS hL
  subst hs
  subst hcs
  obtain ⟨q0, hq, hset⟩ := xfl_at hi hj
  refine va_last hx hb hZ.1 hP hD hS q0 2 hq rfl hin hdg (fun H1 locs1 hP1 hD1 hS1 => ?_)
  rw [hset] at hP1 hD1
  exact kk H1 locs1 ls hP1 hD1 hS1 hL
theorem x_zast {l : Launch} {D : va_G} {e0 : Nat} {own : String} {cc : ByteArray} {nL : Nat} {ret : Option FieldType} {hh : List (Nat × Nat × Nat × Nat)} {R : Room} {G : xGt} {X : xXt} (B : xB l D e0 own cc nL ret hh R G X) {pc : Nat} {lv : List (Nat × Value)} {st : List Value} {cs : List va_W} {k n : Nat}  {a m0 : Nat} {f0 : Nat → Int32} {ix : Int32} {x : Int32} {ch ch1 : va_W} (i j : Nat) (cs1 : List va_W) (hi : cs[i]? = some ch) (hj : ch[j]? = some (a, .inl (D.1 11, m0, .inl f0))) (hin : vp_in ix m0) (hs : ch.set j (a, .inl (D.1 11, m0, .inl (upd f0 ix.toNatClampNeg (vp_nar .boolean x)))) = ch1) (hcs : cs.set i ch1 = cs1) (hdg : decode cc pc = .ok (.bastore, 1)) (kk : G (pc + 1) lv st cs1 k n) : G pc lv (.int x :: .int ix :: .ref a :: st) cs k n := by
  obtain ⟨p, e, s, m, args, below, meth, c, A, Q, rfl, rfl, hx, hb, hml, hown, hts, hret, htab, hZ, hA, hlk, htr⟩ := B
  intro H locs ls hP hD hS hL
  subst hs
  subst hcs
  obtain ⟨q0, hq, hset⟩ := xfl_at hi hj
  refine va_zast hx hb hZ.1 hP hD hS q0 1 hq rfl hin hdg (fun H1 locs1 hP1 hD1 hS1 => ?_)
  rw [hset] at hP1 hD1
  exact kk H1 locs1 ls hP1 hD1 hS1 hL
theorem x_alen {l : Launch} {D : va_G} {e0 : Nat} {own : String} {cc : ByteArray} {nL : Nat} {ret : Option FieldType} {hh : List (Nat × Nat × Nat × Nat)} {R : Room} {G : xGt} {X : xXt} (B : xB l D e0 own cc nL ret hh R G X) {pc : Nat} {lv : List (Nat × Value)} {st : List Value} {cs : List va_W} {k n : Nat}  {a : Nat} {x0 : vp_A} {cA : ClassId} {v : Int32} {ch : va_W} (i j t0 : Nat) {fty : FieldType} (hi : cs[i]? = some ch) (hj : ch[j]? = some (a, .inl (cA, x0))) (ht : (xTY D)[t0]? = some (cA, fty)) (hv : Int32.ofNat x0.1 = v) (hdg : decode cc pc = .ok (.arraylength, 1)) (kk : G (pc + 1) lv (.int v :: st) cs k n) : G pc lv (.ref a :: st) cs k n := by
  obtain ⟨p, e, s, m, args, below, meth, c, A, Q, rfl, rfl, hx, hb, hml, hown, hts, hret, htab, hZ, hA, hlk, htr⟩ := B
  intro H locs ls hP hD hS hL
  obtain ⟨q0, hq⟩ := xfl_mem hi hj
  exact va_alen hx hb hZ.1 hP q0 t0 hq ht hv hdg (kk H locs ls hP hD hS hL)
theorem x_new {l : Launch} {D : va_G} {e0 : Nat} {own : String} {cc : ByteArray} {nL : Nat} {ret : Option FieldType} {hh : List (Nat × Nat × Nat × Nat)} {R : Room} {G : xGt} {X : xXt} (B : xB l D e0 own cc nL ret hh R G X) {pc : Nat} {lv : List (Nat × Value)} {st : List Value} {cs : List va_W} {k n : Nat} {ci : Nat} {C : String} {T : u_T} {N : Nat} {ty : Nat → FieldType}  {index : Nat} {fs : List Value} (hc : xCl ci C T N ty) (h1 : Cond.classLink own index C ∈ lw_tbl) (h2 : Cond.instantiable C N ∈ lw_tbl) (h3 : Cond.initialized C ∈ lw_tbl) (hfs : ∀ j, j < N → defaultValue (ty j) = vp_V fs j) (hk : k + 1 ≤ R.cells) (hn : n + N ≤ R.slots) (hdg : decode cc pc = .ok (.new index, 3)) (kk : ∀ q : Nat, G (pc + 3) lv (.ref q :: st) (cs ++ [[(q, .inr (ci, fs))]]) (k + 1) (n + N)) : G pc lv st cs k n := by
  obtain ⟨p, e, s, m, args, below, meth, c, A, Q, rfl, rfl, hx, hb, hml, hown, hts, hret, htab, hZ, hA, hlk, htr⟩ := B
  intro H locs ls hP hD hS hL
  refine va_new hx hb hts hc.2.1 ty hc.2.2.1 hown (hts _ (xT_mem h1 rfl)) (hts _ (xT_mem h2 rfl)) (hts _ (xT_mem h3 rfl)) hZ.1 hP hD hS hA hc.1 hfs hk hn hdg (fun q H1 hP1 hD1 hS1 => ?_)
  exact kk q H1 locs ls (by simpa using hP1) (by simpa using hD1) hS1 hL
theorem x_newI {l : Launch} {D : va_G} {e0 : Nat} {own : String} {cc : ByteArray} {nL : Nat} {ret : Option FieldType} {hh : List (Nat × Nat × Nat × Nat)} {R : Room} {G : xGt} {X : xXt} (B : xB l D e0 own cc nL ret hh R G X) {pc : Nat} {lv : List (Nat × Value)} {st : List Value} {cs : List va_W} {k n : Nat}  {ix : Int32} (N9 : Nat) (h1 : Cond.arrayClass .int ∈ lw_tbl) (h0 : ¬ ix < 0) (hN : ix.toNatClampNeg = N9) (hby : N9 ≤ 60000000) (hk : k + 1 ≤ R.cells) (hn : n + N9 ≤ R.slots) (hdg : decode cc pc = .ok (.newarray .int, 2)) (kk : ∀ q : Nat, G (pc + 2) lv (.ref q :: st) (cs ++ [[(q, .inl (D.1 10, N9, .inl (fun _ => 0)))]]) (k + 1) (n + N9)) : G pc lv (.int ix :: st) cs k n := by
  obtain ⟨p, e, s, m, args, below, meth, c, A, Q, rfl, rfl, hx, hb, hml, hown, hts, hret, htab, hZ, hA, hlk, htr⟩ := B
  intro H locs ls hP hD hS hL
  have hb9 : N9 * componentBytes .int ≤ 536870912 := by
    have hc9 : componentBytes .int ≤ 8 := by decide
    exact Nat.le_trans (Nat.mul_le_mul_left N9 hc9) (by omega)
  refine va_newa (N' := N9) (atype := .int) (ty := .int) (a0 := (N9, .inl (fun _ => 0))) hx hb (hts _ (xT_mem h1 rfl)) rfl hZ.1 hP hD hS hA (fun cA => rfl) h0 hN hb9 hk hn hdg (fun q cA H1 hK1 hP1 hD1 hS1 => ?_)
  have e1 := (hK1.2 5 (cA, .int) rfl).2
  have e2 := (hZ.1.2 0 (D.1 10, .int) rfl).2
  have e3 : cA = D.1 10 := Option.some.inj (e1.symm.trans e2)
  subst e3
  exact kk q H1 locs ls (by simpa using hP1) (by simpa using hD1) hS1 hL
theorem x_newZ {l : Launch} {D : va_G} {e0 : Nat} {own : String} {cc : ByteArray} {nL : Nat} {ret : Option FieldType} {hh : List (Nat × Nat × Nat × Nat)} {R : Room} {G : xGt} {X : xXt} (B : xB l D e0 own cc nL ret hh R G X) {pc : Nat} {lv : List (Nat × Value)} {st : List Value} {cs : List va_W} {k n : Nat}  {ix : Int32} (N9 : Nat) (h1 : Cond.arrayClass .boolean ∈ lw_tbl) (h0 : ¬ ix < 0) (hN : ix.toNatClampNeg = N9) (hby : N9 ≤ 60000000) (hk : k + 1 ≤ R.cells) (hn : n + N9 ≤ R.slots) (hdg : decode cc pc = .ok (.newarray .boolean, 2)) (kk : ∀ q : Nat, G (pc + 2) lv (.ref q :: st) (cs ++ [[(q, .inl (D.1 11, N9, .inl (fun _ => 0)))]]) (k + 1) (n + N9)) : G pc lv (.int ix :: st) cs k n := by
  obtain ⟨p, e, s, m, args, below, meth, c, A, Q, rfl, rfl, hx, hb, hml, hown, hts, hret, htab, hZ, hA, hlk, htr⟩ := B
  intro H locs ls hP hD hS hL
  have hb9 : N9 * componentBytes .boolean ≤ 536870912 := by
    have hc9 : componentBytes .boolean ≤ 8 := by decide
    exact Nat.le_trans (Nat.mul_le_mul_left N9 hc9) (by omega)
  refine va_newa (N' := N9) (atype := .boolean) (ty := .boolean) (a0 := (N9, .inl (fun _ => 0))) hx hb (hts _ (xT_mem h1 rfl)) rfl hZ.1 hP hD hS hA (fun cA => rfl) h0 hN hb9 hk hn hdg (fun q cA H1 hK1 hP1 hD1 hS1 => ?_)
  have e1 := (hK1.2 5 (cA, .boolean) rfl).2
  have e2 := (hZ.1.2 1 (D.1 11, .boolean) rfl).2
  have e3 : cA = D.1 11 := Option.some.inj (e1.symm.trans e2)
  subst e3
  exact kk q H1 locs ls (by simpa using hP1) (by simpa using hD1) hS1 hL
theorem x_newJ {l : Launch} {D : va_G} {e0 : Nat} {own : String} {cc : ByteArray} {nL : Nat} {ret : Option FieldType} {hh : List (Nat × Nat × Nat × Nat)} {R : Room} {G : xGt} {X : xXt} (B : xB l D e0 own cc nL ret hh R G X) {pc : Nat} {lv : List (Nat × Value)} {st : List Value} {cs : List va_W} {k n : Nat}  {ix : Int32} (N9 : Nat) (h1 : Cond.arrayClass .long ∈ lw_tbl) (h0 : ¬ ix < 0) (hN : ix.toNatClampNeg = N9) (hby : N9 ≤ 60000000) (hk : k + 1 ≤ R.cells) (hn : n + N9 ≤ R.slots) (hdg : decode cc pc = .ok (.newarray .long, 2)) (kk : ∀ q : Nat, G (pc + 2) lv (.ref q :: st) (cs ++ [[(q, .inl (D.1 12, N9, .inr (.inl (fun _ => 0))))]]) (k + 1) (n + N9)) : G pc lv (.int ix :: st) cs k n := by
  obtain ⟨p, e, s, m, args, below, meth, c, A, Q, rfl, rfl, hx, hb, hml, hown, hts, hret, htab, hZ, hA, hlk, htr⟩ := B
  intro H locs ls hP hD hS hL
  have hb9 : N9 * componentBytes .long ≤ 536870912 := by
    have hc9 : componentBytes .long ≤ 8 := by decide
    exact Nat.le_trans (Nat.mul_le_mul_left N9 hc9) (by omega)
  refine va_newa (N' := N9) (atype := .long) (ty := .long) (a0 := (N9, .inr (.inl (fun _ => 0)))) hx hb (hts _ (xT_mem h1 rfl)) rfl hZ.1 hP hD hS hA (fun cA => rfl) h0 hN hb9 hk hn hdg (fun q cA H1 hK1 hP1 hD1 hS1 => ?_)
  have e1 := (hK1.2 5 (cA, .long) rfl).2
  have e2 := (hZ.1.2 2 (D.1 12, .long) rfl).2
  have e3 : cA = D.1 12 := Option.some.inj (e1.symm.trans e2)
  subst e3
  exact kk q H1 locs ls (by simpa using hP1) (by simpa using hD1) hS1 hL
theorem x_newK {l : Launch} {D : va_G} {e0 : Nat} {own : String} {cc : ByteArray} {nL : Nat} {ret : Option FieldType} {hh : List (Nat × Nat × Nat × Nat)} {R : Room} {G : xGt} {X : xXt} (B : xB l D e0 own cc nL ret hh R G X) {pc : Nat} {lv : List (Nat × Value)} {st : List Value} {cs : List va_W} {k n : Nat}  {ix : Int32} {index : Nat} (N9 : Nat) (h1 : Cond.classLink own index "CreditLinks$Link" ∈ lw_tbl) (h0 : ¬ ix < 0) (hN : ix.toNatClampNeg = N9) (hby : N9 ≤ 60000000) (hk : k + 1 ≤ R.cells) (hn : n + N9 ≤ R.slots) (hdg : decode cc pc = .ok (.anewarray index, 3)) (kk : ∀ q : Nat, G (pc + 3) lv (.ref q :: st) (cs ++ [[(q, .inl (D.1 13, N9, .inr (.inr (.inr (.inr (fun _ => none))))))]]) (k + 1) (n + N9)) : G pc lv (.int ix :: st) cs k n := by
  obtain ⟨p, e, s, m, args, below, meth, c, A, Q, rfl, rfl, hx, hb, hml, hown, hts, hret, htab, hZ, hA, hlk, htr⟩ := B
  intro H locs ls hP hD hS hL
  refine va_newq hx hb hown (hts _ (xT_mem h1 rfl)) hZ.2.1.2.2.2.1.1 hZ.1 hP hD hS hA h0 hN (by omega) hk hn hdg (fun q cA H1 hK1 hP1 hD1 hS1 => ?_)
  have e1 := (hK1.2 5 (cA, .object "CreditLinks$Link") rfl).2
  have e2 := (hZ.1.2 3 (D.1 13, .object "CreditLinks$Link") rfl).2
  have e3 : cA = D.1 13 := Option.some.inj ((va_nmO e1 rfl).symm.trans (va_nmO e2 rfl))
  subst e3
  exact kk q H1 locs ls (by simpa using hP1) (by simpa using hD1) hS1 hL
theorem x_newO {l : Launch} {D : va_G} {e0 : Nat} {own : String} {cc : ByteArray} {nL : Nat} {ret : Option FieldType} {hh : List (Nat × Nat × Nat × Nat)} {R : Room} {G : xGt} {X : xXt} (B : xB l D e0 own cc nL ret hh R G X) {pc : Nat} {lv : List (Nat × Value)} {st : List Value} {cs : List va_W} {k n : Nat}  {ix : Int32} {index : Nat} (N9 : Nat) (h1 : Cond.classLink own index "java/lang/Object" ∈ lw_tbl) (h0 : ¬ ix < 0) (hN : ix.toNatClampNeg = N9) (hby : N9 ≤ 60000000) (hk : k + 1 ≤ R.cells) (hn : n + N9 ≤ R.slots) (hdg : decode cc pc = .ok (.anewarray index, 3)) (kk : ∀ q : Nat, G (pc + 3) lv (.ref q :: st) (cs ++ [[(q, .inl (D.1 14, N9, .inr (.inr (.inr (.inr (fun _ => none))))))]]) (k + 1) (n + N9)) : G pc lv (.int ix :: st) cs k n := by
  obtain ⟨p, e, s, m, args, below, meth, c, A, Q, rfl, rfl, hx, hb, hml, hown, hts, hret, htab, hZ, hA, hlk, htr⟩ := B
  intro H locs ls hP hD hS hL
  refine va_newq hx hb hown (hts _ (xT_mem h1 rfl)) hZ.2.1.2.2.2.1.2 hZ.1 hP hD hS hA h0 hN (by omega) hk hn hdg (fun q cA H1 hK1 hP1 hD1 hS1 => ?_)
  have e1 := (hK1.2 5 (cA, .object "java/lang/Object") rfl).2
  have e2 := (hZ.1.2 4 (D.1 14, .object "java/lang/Object") rfl).2
  have e3 : cA = D.1 14 := Option.some.inj ((va_nmO e1 rfl).symm.trans (va_nmO e2 rfl))
  subst e3
  exact kk q H1 locs ls (by simpa using hP1) (by simpa using hD1) hS1 hL
theorem x_kast {l : Launch} {D : va_G} {e0 : Nat} {own : String} {cc : ByteArray} {nL : Nat} {ret : Option FieldType} {hh : List (Nat × Nat × Nat × Nat)} {R : Room} {G : xGt} {X : xXt} (B : xB l D e0 own cc nL ret hh R G X) {pc : Nat} {lv : List (Nat × Value)} {st : List Value} {cs : List va_W} {k n : Nat}  {a b m0 : Nat} {f0 : Nat → Option Nat} {ix : Int32} {vs : List Value} {ch ch1 ch2 : va_W} (i j i2 j2 : Nat) (cs1 : List va_W) (hi : cs[i]? = some ch) (hj : ch[j]? = some (a, .inl (D.1 13, m0, .inr (.inr (.inr (.inr f0)))))) (hi2 : cs[i2]? = some ch2) (hj2 : ch2[j2]? = some (b, .inr (2, vs))) (hin : vp_in ix m0) (hs : ch.set j (a, .inl (D.1 13, m0, .inr (.inr (.inr (.inr (va_up f0 ix.toNatClampNeg (some b))))))) = ch1) (hcs : cs.set i ch1 = cs1) (hdg : decode cc pc = .ok (.aastore, 1)) (kk : G (pc + 1) lv st cs1 k n) : G pc lv (.ref b :: .int ix :: .ref a :: st) cs k n := by
  obtain ⟨p, e, s, m, args, below, meth, c, A, Q, rfl, rfl, hx, hb, hml, hown, hts, hret, htab, hZ, hA, hlk, htr⟩ := B
  intro H locs ls hP hD hS hL
  subst hs
  subst hcs
  obtain ⟨q0, hq, hset⟩ := xfl_at hi hj
  obtain ⟨q2, hq2⟩ := xfl_mem hi2 hj2
  refine va_astq (r := (RX1, TX1, 4)) hx hb hZ.1 hP hD hS q0 3 q2 2 hq rfl hq2 rfl hin hdg (fun H1 locs1 hP1 hD1 hS1 => ?_)
  rw [hset] at hP1 hD1
  exact kk H1 locs1 ls hP1 hD1 hS1 hL
theorem x_oast {l : Launch} {D : va_G} {e0 : Nat} {own : String} {cc : ByteArray} {nL : Nat} {ret : Option FieldType} {hh : List (Nat × Nat × Nat × Nat)} {R : Room} {G : xGt} {X : xXt} (B : xB l D e0 own cc nL ret hh R G X) {pc : Nat} {lv : List (Nat × Value)} {st : List Value} {cs : List va_W} {k n : Nat}  {a b m0 : Nat} {f0 : Nat → Option Nat} {ix : Int32} {vs : List Value} {ch ch1 ch2 : va_W} (i j i2 j2 : Nat) (cs1 : List va_W) (hi : cs[i]? = some ch) (hj : ch[j]? = some (a, .inl (D.1 14, m0, .inr (.inr (.inr (.inr f0)))))) (hi2 : cs[i2]? = some ch2) (hj2 : ch2[j2]? = some (b, .inr (1, vs))) (hin : vp_in ix m0) (hs : ch.set j (a, .inl (D.1 14, m0, .inr (.inr (.inr (.inr (va_up f0 ix.toNatClampNeg (some b))))))) = ch1) (hcs : cs.set i ch1 = cs1) (hdg : decode cc pc = .ok (.aastore, 1)) (kk : G (pc + 1) lv st cs1 k n) : G pc lv (.ref b :: .int ix :: .ref a :: st) cs k n := by
  obtain ⟨p, e, s, m, args, below, meth, c, A, Q, rfl, rfl, hx, hb, hml, hown, hts, hret, htab, hZ, hA, hlk, htr⟩ := B
  intro H locs ls hP hD hS hL
  subst hs
  subst hcs
  obtain ⟨q0, hq, hset⟩ := xfl_at hi hj
  obtain ⟨q2, hq2⟩ := xfl_mem hi2 hj2
  refine va_astqO (r := (RX0, TX0, 12)) (E := "java/lang/Object") hx hb hZ.1 hP hD hS q0 4 q2 1 hq rfl (hZ.2.1.2.1 ("CreditLinks$Delivery", "java/lang/Object") (by simp [xNC])) hq2 rfl hin hdg (fun H1 locs1 hP1 hD1 hS1 => ?_)
  rw [hset] at hP1 hD1
  exact kk H1 locs1 ls hP1 hD1 hS1 hL
theorem x_oastnull {l : Launch} {D : va_G} {e0 : Nat} {own : String} {cc : ByteArray} {nL : Nat} {ret : Option FieldType} {hh : List (Nat × Nat × Nat × Nat)} {R : Room} {G : xGt} {X : xXt} (B : xB l D e0 own cc nL ret hh R G X) {pc : Nat} {lv : List (Nat × Value)} {st : List Value} {cs : List va_W} {k n : Nat}  {a m0 : Nat} {f0 : Nat → Option Nat} {ix : Int32} {ch ch1 : va_W} (i j : Nat) (cs1 : List va_W) (hi : cs[i]? = some ch) (hj : ch[j]? = some (a, .inl (D.1 14, m0, .inr (.inr (.inr (.inr f0)))))) (hin : vp_in ix m0) (hs : ch.set j (a, .inl (D.1 14, m0, .inr (.inr (.inr (.inr (va_up f0 ix.toNatClampNeg none)))))) = ch1) (hcs : cs.set i ch1 = cs1) (hdg : decode cc pc = .ok (.aastore, 1)) (kk : G (pc + 1) lv st cs1 k n) : G pc lv (.null :: .int ix :: .ref a :: st) cs k n := by
  obtain ⟨p, e, s, m, args, below, meth, c, A, Q, rfl, rfl, hx, hb, hml, hown, hts, hret, htab, hZ, hA, hlk, htr⟩ := B
  intro H locs ls hP hD hS hL
  subst hs
  subst hcs
  obtain ⟨q0, hq, hset⟩ := xfl_at hi hj
  refine va_astqN hx hb hZ.1 hP hD hS q0 4 hq rfl hin hdg (fun H1 locs1 hP1 hD1 hS1 => ?_)
  rw [hset] at hP1 hD1
  exact kk H1 locs1 ls hP1 hD1 hS1 hL
theorem x_cast {l : Launch} {D : va_G} {e0 : Nat} {own : String} {cc : ByteArray} {nL : Nat} {ret : Option FieldType} {hh : List (Nat × Nat × Nat × Nat)} {R : Room} {G : xGt} {X : xXt} (B : xB l D e0 own cc nL ret hh R G X) {pc : Nat} {lv : List (Nat × Value)} {st : List Value} {cs : List va_W} {k n : Nat} {ci : Nat} {C : String} {T : u_T} {N : Nat} {ty : Nat → FieldType}  {a index : Nat} {fs : List Value} {ch : va_W} (hc : xCl ci C T N ty) (i j : Nat) (hi : cs[i]? = some ch) (hj : ch[j]? = some (a, .inr (ci, fs))) (hw : Cond.classLink own index C ∈ lw_tbl) (hdg : decode cc pc = .ok (.checkcast index, 3)) (kk : G (pc + 3) lv (.ref a :: st) cs k n) : G pc lv (.ref a :: st) cs k n := by
  obtain ⟨p, e, s, m, args, below, meth, c, A, Q, rfl, rfl, hx, hb, hml, hown, hts, hret, htab, hZ, hA, hlk, htr⟩ := B
  intro H locs ls hP hD hS hL
  obtain ⟨q0, hq⟩ := xfl_mem hi hj
  exact va_castS hx hb hown (hts _ (xT_mem hw rfl)) (hZ.1.1 ci _ hc.1).2 (va_recv hZ.1 hP hc.1 hq) hdg (kk H locs ls hP hD hS hL)
theorem x_objInit {l : Launch} {D : va_G} {e0 : Nat} {own : String} {cc : ByteArray} {nL : Nat} {ret : Option FieldType} {hh : List (Nat × Nat × Nat × Nat)} {R : Room} {G : xGt} {X : xXt} (B : xB l D e0 own cc nL ret hh R G X) {pc : Nat} {lv : List (Nat × Value)} {st : List Value} {cs : List va_W} {k n : Nat}  {a index : Nat} (hw : Cond.methodLink own index Lib.objectInit ∈ lw_tbl) (hw2 : Cond.instanceMethod Lib.objectInit ∈ lw_tbl) (hw3 : Cond.code Lib.objectInit ⟨#[0xb1]⟩ 1 none ∈ lw_tbl) (hf : 1 ≤ R.frames) (hlo : (st.map fun v => v.category).sum + 12 ≤ R.locals) (hdg : decode cc pc = .ok (.invokespecial index, 3)) (kk : G (pc + 3) lv st cs k n) : G pc lv (.ref a :: st) cs k n := by
  obtain ⟨p, e, s, m, args, below, meth, c, A, Q, rfl, rfl, hx, hb, hml, hown, hts, hret, htab, hZ, hA, hlk, htr⟩ := B
  intro H locs ls hP hD hS hL
  exact W.objInit hx hb hown (hts _ (xT_mem hw rfl)) (hts _ (xT_mem hw2 rfl)) (hts _ (xT_mem hw3 rfl)) rfl (hL.1.trans hml.symm) rfl hdg hf (by show 2 * 0 + _ + 12 ≤ _; omega) (kk H locs ls hP hD hS hL)
theorem x_mmax {l : Launch} {D : va_G} {e0 : Nat} {own : String} {cc : ByteArray} {nL : Nat} {ret : Option FieldType} {hh : List (Nat × Nat × Nat × Nat)} {R : Room} {G : xGt} {X : xXt} (B : xB l D e0 own cc nL ret hh R G X) {pc : Nat} {lv : List (Nat × Value)} {st : List Value} {cs : List va_W} {k n : Nat}  {x y : Int32} {index : Nat} (hw : Cond.methodLink own index Lib.Math.max.name ∈ lw_tbl) (hw2 : Cond.static Lib.Math.max.name ∈ lw_tbl) (hw3 : Cond.initialized "java/lang/Math" ∈ lw_tbl) (hw4 : Cond.code Lib.Math.max.name Lib.Math.max.code 2 (some .int) ∈ lw_tbl) (hf : 1 ≤ R.frames) (hlo : (st.map fun v => v.category).sum + 13 ≤ R.locals) (hk : k ≤ R.cells) (hn : n ≤ R.slots) (hdg : decode cc pc = .ok (.invokestatic index, 3)) (kk : G (pc + 3) lv (.int (if x < y then y else x) :: st) cs k n) : G pc lv (.int y :: .int x :: st) cs k n := by
  obtain ⟨p, e, s, m, args, below, meth, c, A, Q, rfl, rfl, hx, hb, hml, hown, hts, hret, htab, hZ, hA, hlk, htr⟩ := B
  intro H locs ls hP hD hS hL
  exact va_mmax hx hb (hml.trans hL.1.symm) hown (hts _ (xT_mem hw rfl)) (hts _ (xT_mem hw2 rfl)) (hts _ (xT_mem hw3 rfl)) (hts _ (xT_mem hw4 rfl)) hf hlo hk hn hdg (kk H locs ls hP hD hS hL)
theorem x_mmin {l : Launch} {D : va_G} {e0 : Nat} {own : String} {cc : ByteArray} {nL : Nat} {ret : Option FieldType} {hh : List (Nat × Nat × Nat × Nat)} {R : Room} {G : xGt} {X : xXt} (B : xB l D e0 own cc nL ret hh R G X) {pc : Nat} {lv : List (Nat × Value)} {st : List Value} {cs : List va_W} {k n : Nat}  {x y : Int32} {index : Nat} (hw : Cond.methodLink own index Lib.Math.min.name ∈ lw_tbl) (hw2 : Cond.static Lib.Math.min.name ∈ lw_tbl) (hw3 : Cond.initialized "java/lang/Math" ∈ lw_tbl) (hw4 : Cond.code Lib.Math.min.name Lib.Math.min.code 2 (some .int) ∈ lw_tbl) (hf : 1 ≤ R.frames) (hlo : (st.map fun v => v.category).sum + 13 ≤ R.locals) (hk : k ≤ R.cells) (hn : n ≤ R.slots) (hdg : decode cc pc = .ok (.invokestatic index, 3)) (kk : G (pc + 3) lv (.int (if y < x then y else x) :: st) cs k n) : G pc lv (.int y :: .int x :: st) cs k n := by
  obtain ⟨p, e, s, m, args, below, meth, c, A, Q, rfl, rfl, hx, hb, hml, hown, hts, hret, htab, hZ, hA, hlk, htr⟩ := B
  intro H locs ls hP hD hS hL
  exact va_mmin hx hb (hml.trans hL.1.symm) hown (hts _ (xT_mem hw rfl)) (hts _ (xT_mem hw2 rfl)) (hts _ (xT_mem hw3 rfl)) (hts _ (xT_mem hw4 rfl)) hf hlo hk hn hdg (kk H locs ls hP hD hS hL)
theorem x_gets0 {l : Launch} {D : va_G} {e0 : Nat} {own : String} {cc : ByteArray} {nL : Nat} {ret : Option FieldType} {hh : List (Nat × Nat × Nat × Nat)} {R : Room} {G : xGt} {X : xXt} (B : xB l D e0 own cc nL ret hh R G X) {pc : Nat} {lv : List (Nat × Value)} {st : List Value} {cs : List va_W} {k n : Nat}  {index : Nat} (hw : Cond.fieldLink own index "java/util/ArrayList" "DEFAULTCAPACITY_EMPTY_ELEMENTDATA" "[Ljava/lang/Object;" ∈ lw_tbl) (hdg : decode cc pc = .ok (.getstatic index, 3)) (kk : G (pc + 3) lv (.ref e0 :: st) cs k n) : G pc lv st cs k n := by
  obtain ⟨p, e, s, m, args, below, meth, c, A, Q, rfl, rfl, hx, hb, hml, hown, hts, hret, htab, hZ, hA, hlk, htr⟩ := B
  intro H locs ls hP hD hS hL
  exact va_gets hx hb hZ.2.2.1 hS hown (hts _ (xT_mem hw rfl)) (fun _ h => h) hdg (kk H locs ls hP hD hS hL)
theorem x_len0 {l : Launch} {D : va_G} {e0 : Nat} {own : String} {cc : ByteArray} {nL : Nat} {ret : Option FieldType} {hh : List (Nat × Nat × Nat × Nat)} {R : Room} {G : xGt} {X : xXt} (B : xB l D e0 own cc nL ret hh R G X) {pc : Nat} {lv : List (Nat × Value)} {st : List Value} {cs : List va_W} {k n : Nat}  (hdg : decode cc pc = .ok (.arraylength, 1)) (kk : G (pc + 1) lv (.int 0 :: st) cs k n) : G pc lv (.ref e0 :: st) cs k n := by
  obtain ⟨p, e, s, m, args, below, meth, c, A, Q, rfl, rfl, hx, hb, hml, hown, hts, hret, htab, hZ, hA, hlk, htr⟩ := B
  intro H locs ls hP hD hS hL
  exact va_tlen hx hb hZ.2.2.2.1 hS rfl hdg (kk H locs ls hP hD hS hL)
theorem x_ne0 {l : Launch} {D : va_G} {e0 : Nat} {own : String} {cc : ByteArray} {nL : Nat} {ret : Option FieldType} {hh : List (Nat × Nat × Nat × Nat)} {R : Room} {G : xGt} {X : xXt} (B : xB l D e0 own cc nL ret hh R G X) {pc : Nat} {lv : List (Nat × Value)} {st : List Value} {cs : List va_W} {k n : Nat}  {a : Nat} {x0 : va_E} {ch : va_W} (i j : Nat) (hi : cs[i]? = some ch) (hj : ch[j]? = some (a, x0)) (kk : a ≠ e0 → G pc lv st cs k n) : G pc lv st cs k n := by
  obtain ⟨p, e, s, m, args, below, meth, c, A, Q, rfl, rfl, hx, hb, hml, hown, hts, hret, htab, hZ, hA, hlk, htr⟩ := B
  intro H locs ls hP hD hS hL
  obtain ⟨q0, hq⟩ := xfl_mem hi hj
  obtain ⟨cell, -, -, -, -, -, -, h7⟩ := hZ.2.2.2.1
  exact kk (fun e => h7 (by rw [← e]; exact hD.2 q0 _ hq)) H locs ls hP hD hS hL
end
section
/-! LIB C: contracts, returns, throws, calls, catches -/
theorem x_ofW {l : Launch} {y : MethodName} {ws ws' : List Cond} {rm : Room} {Pc : Array Value → State → Prop} {Qc : Array Value → State → Outcome → State → Prop} {XC : String → State → State → Prop} {mc ms : Nat} {free : Addr → Prop} {cc : ByteArray} {maxL : Nat} {ret : Option FieldType}
    (hy : plainFor y = true) (hw : ws = Cond.code y cc maxL ret :: ws')
    (body : ∀ p e s m args below meth c s₁, BodyLoose p l y (headSpec ws rm) cc maxL ret e s m args below meth c s₁ → c.maxLocals = maxL → (∀ x ∈ c.exceptionTable.toList, False) → Pc args s →
      W p l e (headSpec ws rm).room s m args below meth c s.heap [] 0 0 (vx_MQ below Qc XC args s mc ms free) (entryFrame m args maxL)) : vx_Met l y ws rm Pc Qc XC mc ms free := by
  refine MetFree.of_bodySF (code := cc) (maxLocals := maxL) (ret := ret) hy ?_ ?_
  · intro args s m h hn
    obtain ⟨meth, c, h1, h2, h3, h4, h5, h6, -, -⟩ := Cond.code_spec hn (atoms_spec (ws := ws) h _ (by rw [hw]; exact List.mem_cons_self))
    exact ⟨meth, c, h1, h2, h3, h4, h5, h6⟩
  · intro p e s m args below meth c s₁ B hml hP _
    have hh0 : s₁.heap = s.heap := by rw [B.state]; rfl
    have ht : ∀ x ∈ c.exceptionTable.toList, False := by
      obtain ⟨meth9, c9, h1, h2, -, -, -, -, h7, -⟩ := Cond.code_spec B.named (atoms_spec (ws := ws) B.pre _ (by rw [hw]; exact List.mem_cons_self))
      cases Option.some.inj (h1.symm.trans B.method)
      cases Option.some.inj (h2.symm.trans (Stand.of_body B).code)
      intro x hx
      rw [Array.isEmpty_iff.mp h7] at hx
      cases hx
    obtain ⟨t, a1, o, b1, b2, b3⟩ := body p e s m args below meth c s₁ B hml ht hP s₁ hh0 (Stand.of_body B)
    exact ⟨t, o, a1, b1, b2, b3⟩
theorem xC_of {l : Launch} {y : MethodName} {cc : ByteArray} {nL : Nat} {ret : Option FieldType} {rm : Room} {D : va_G} {e0 : Nat} {av : List Value} {cs : List va_W} {post : Option Value → List va_W → Prop} {xp : String → Prop}
    (hl0 : l.stackTraces = false) (hy : plainFor y = true) (hargs : (lg_sl av).length ≤ nL)
    (body : ∀ (G : xGt) (X : xXt), xF l D e0 y.cls cc nL ret [] rm y.name cs post xp G X → G 0 (lv_args 0 av) [] cs 0 0) : xC l y (.code y cc nL ret) rm D e0 av cs post xp := by
  intro sz
  refine x_ofW (cc := cc) (maxL := nL) (ret := ret) (ws' := xT) hy rfl ?_
  intro p e s m args below meth c s₁ B hml ht hP
  obtain ⟨rfl, hsz, hPp, hD, hZ⟩ := hP
  subst hsz
  have hts := atoms_spec (ws := .code y cc nL ret :: xT) B.pre
  rw [lg_entry_eq]
  have hD2 : va_D (va_A cs.flatten s.heap.size) cs.flatten := hD.self
  have htab : c.exceptionTable.toList = tableOf [] := by
    rw [show tableOf [] = [] from rfl]
    exact List.eq_nil_iff_forall_not_mem.mpr ht
  exact body _ _ ⟨p, e, s, m, av.toArray, below, meth, c, va_A cs.flatten s.heap.size, _, rfl, rfl, B.exec, B.bytes, hml, findClass_of_methodNamed B.named, ⟨fun w hw => hts w (List.mem_cons_of_mem _ hw), B.returns, htab, hZ, fun q h => Or.inr h, B.notSynchronized, hl0⟩, (name_of_methodNamed B.named B.method).1, rfl⟩ s.heap [] _ hPp hD2 va_S.rf (lv_entry av hargs)
theorem xCw_of {l : Launch} {y : MethodName} {cc : ByteArray} {nL : Nat} {ret : Option FieldType} {hh : List (Nat × Nat × Nat × Nat)} {rm : Room} {D : va_G} {e0 : Nat} {av : List Value} {cs : List va_W} {post : Option Value → List va_W → Prop} {xp : String → Prop}
    (hl0 : l.stackTraces = false) (hy : plainName y.cls = true) (hargs : (lg_sl av).length ≤ nL)
    (body : ∀ (G : xGt) (X : xXt), xF l D e0 y.cls cc nL ret hh rm y.name cs post xp G X → G 0 (lv_args 0 av) [] cs 0 0) : xC l y (.codeWith y cc nL ret hh) rm D e0 av cs post xp := by
  intro sz
  refine vx_ofWH (cc := cc) (maxL := nL) (ret := ret) (hh := hh) (ws' := xT) hy rfl ?_
  intro p e s m args below meth c s₁ B hml hP
  obtain ⟨rfl, hsz, hPp, hD, hZ⟩ := hP
  subst hsz
  have hts := atoms_spec (ws := .codeWith y cc nL ret hh :: xT) B.pre
  rw [lg_entry_eq]
  have hD2 : va_D (va_A cs.flatten s.heap.size) cs.flatten := hD.self
  exact body _ _ ⟨p, e, s, m, av.toArray, below, meth, c, va_A cs.flatten s.heap.size, _, rfl, rfl, B.exec, B.bytes, hml, findClass_of_methodNamed B.named, ⟨fun w hw => hts w (List.mem_cons_of_mem _ hw), B.returns, vx_table (x := y) B (hts _ List.mem_cons_self), hZ, fun q h => Or.inr h, B.notSynchronized, hl0⟩, (name_of_methodNamed B.named B.method).1, rfl⟩ s.heap [] _ hPp hD2 va_S.rf (lv_entry av hargs)
theorem x_iret {l : Launch} {D : va_G} {e0 : Nat} {own : String} {cc : ByteArray} {nL : Nat} {ret : Option FieldType} {hh : List (Nat × Nat × Nat × Nat)} {R : Room} {G : xGt} {X : xXt} {nm : String} {cs0 : List va_W} {post : Option Value → List va_W → Prop} {xp : String → Prop} (F : xF l D e0 own cc nL ret hh R nm cs0 post xp G X) {pc : Nat} {lv : List (Nat × Value)} {cs : List va_W} {k n : Nat} {v : Int32} (hrt : ret = some .int) (hdg : decode cc pc = .ok (.ireturn, 1)) (hp : post (some (.int v)) cs) (hk : k ≤ R.cells) (hn : n ≤ R.slots) : G pc lv [.int v] cs k n := by
  obtain ⟨p, e, s, m, args, below, meth, c, A, Q, rfl, rfl, hx, hb, hml, hown, ⟨hts, hret, htab, hZ, hA, hlk, htr⟩, hnm, rfl⟩ := F
  intro H locs ls hP hD hS hL
  exact W.widen hk hn (vx_ret (W.iret (v := v) hx hb (hret.trans hrt) (fun t ht hW => ⟨⟨some (.int v), cs, rfl, hp, by rw [ht]; exact hP, hD⟩, hS.F ht⟩) hS.2.2 hdg hlk))
theorem x_zret {l : Launch} {D : va_G} {e0 : Nat} {own : String} {cc : ByteArray} {nL : Nat} {ret : Option FieldType} {hh : List (Nat × Nat × Nat × Nat)} {R : Room} {G : xGt} {X : xXt} {nm : String} {cs0 : List va_W} {post : Option Value → List va_W → Prop} {xp : String → Prop} (F : xF l D e0 own cc nL ret hh R nm cs0 post xp G X) {pc : Nat} {lv : List (Nat × Value)} {cs : List va_W} {k n : Nat} {v : Int32} (hrt : ret = some .boolean) (hz : narrow .boolean (.int v) = .int v) (hdg : decode cc pc = .ok (.ireturn, 1)) (hp : post (some (.int v)) cs) (hk : k ≤ R.cells) (hn : n ≤ R.slots) : G pc lv [.int v] cs k n := by
  obtain ⟨p, e, s, m, args, below, meth, c, A, Q, rfl, rfl, hx, hb, hml, hown, ⟨hts, hret, htab, hZ, hA, hlk, htr⟩, hnm, rfl⟩ := F
  intro H locs ls hP hD hS hL
  exact W.widen hk hn (vx_ret (W.zret (v := v) hx hb (hret.trans hrt) hz (fun t ht hW => ⟨⟨some (.int v), cs, rfl, hp, by rw [ht]; exact hP, hD⟩, hS.F ht⟩) hS.2.2 hdg hlk))
theorem x_vret {l : Launch} {D : va_G} {e0 : Nat} {own : String} {cc : ByteArray} {nL : Nat} {ret : Option FieldType} {hh : List (Nat × Nat × Nat × Nat)} {R : Room} {G : xGt} {X : xXt} {nm : String} {cs0 : List va_W} {post : Option Value → List va_W → Prop} {xp : String → Prop} (F : xF l D e0 own cc nL ret hh R nm cs0 post xp G X) {pc : Nat} {lv : List (Nat × Value)} {cs : List va_W} {k n : Nat} (hrt : ret = none) (hdg : decode cc pc = .ok (.return_, 1)) (hp : post (none) cs) (hk : k ≤ R.cells) (hn : n ≤ R.slots) : G pc lv [] cs k n := by
  obtain ⟨p, e, s, m, args, below, meth, c, A, Q, rfl, rfl, hx, hb, hml, hown, ⟨hts, hret, htab, hZ, hA, hlk, htr⟩, hnm, rfl⟩ := F
  intro H locs ls hP hD hS hL
  exact W.widen hk hn (vx_ret (W.vret hx hb (hret.trans hrt) (fun t ht hW => ⟨⟨none, cs, rfl, hp, by rw [ht]; exact hP, hD⟩, hS.F ht⟩) hS.2.2 hdg hlk))
theorem x_aret {l : Launch} {D : va_G} {e0 : Nat} {own : String} {cc : ByteArray} {nL : Nat} {ret : Option FieldType} {hh : List (Nat × Nat × Nat × Nat)} {R : Room} {G : xGt} {X : xXt} {nm : String} {cs0 : List va_W} {post : Option Value → List va_W → Prop} {xp : String → Prop} (F : xF l D e0 own cc nL ret hh R nm cs0 post xp G X) {pc : Nat} {lv : List (Nat × Value)} {cs : List va_W} {k n : Nat} {a : Nat} {rt : FieldType} (hrt : ret = some rt) (hro : (∃ n, rt = .object n) ∨ ∃ t, rt = .array t) (hdg : decode cc pc = .ok (.areturn, 1)) (hp : post (some (.ref a)) cs) (hk : k ≤ R.cells) (hn : n ≤ R.slots) : G pc lv [.ref a] cs k n := by
  obtain ⟨p, e, s, m, args, below, meth, c, A, Q, rfl, rfl, hx, hb, hml, hown, ⟨hts, hret, htab, hZ, hA, hlk, htr⟩, hnm, rfl⟩ := F
  intro H locs ls hP hD hS hL
  exact W.widen hk hn (vx_ret (W.aret (v := .ref a) hx hb (hret.trans hrt) hro (Or.inr ⟨_, rfl⟩) (fun t ht hW => ⟨⟨some (.ref a), cs, rfl, hp, by rw [ht]; exact hP, hD⟩, hS.F ht⟩) hS.2.2 hdg hlk))
theorem x_out {l : Launch} {D : va_G} {e0 : Nat} {own : String} {cc : ByteArray} {nL : Nat} {ret : Option FieldType} {R : Room} {G : xGt} {X : xXt} {nm : String} {cs0 : List va_W} {post : Option Value → List va_W → Prop} {xp : String → Prop} (F : xF l D e0 own cc nL ret [] R nm cs0 post xp G X) {E : String} {pc : Nat} {lv : List (Nat × Value)} {k n : Nat} (hxp : xp E) (hk : k ≤ R.cells) (hn : n ≤ R.slots) : X E pc lv cs0 k n := by
  obtain ⟨p, e, s, m, args, below, meth, c, A, Q, rfl, rfl, hx, hb, hml, hown, ⟨hts, hret, htab, hZ, hA, hlk, htr⟩, hnm, rfl⟩ := F
  intro H locs ls rest q ce hP hD hS hL hq hv hcl
  have ht0 : c.exceptionTable.toList = [] := htab
  exact vx_out (fun x hx => by rw [ht0] at hx; cases hx) hlk hq hv hcl (fun t ht hW => ⟨hxp, by rw [ht]; exact hP, hS.F ht⟩) hS.2.2 hk hn
theorem x_Xperm {l : Launch} {D : va_G} {e0 : Nat} {own : String} {cc : ByteArray} {nL : Nat} {ret : Option FieldType} {hh : List (Nat × Nat × Nat × Nat)} {R : Room} {G : xGt} {X : xXt} (B : xB l D e0 own cc nL ret hh R G X) {E : String} {pc : Nat} {lv : List (Nat × Value)} {cs : List va_W} {k n : Nat} {cs1 : List va_W} (h : List.Perm cs.flatten cs1.flatten) (kk : X E pc lv cs1 k n) : X E pc lv cs k n := by
  obtain ⟨p, e, s, m, args, below, meth, c, A, Q, rfl, rfl, hx, hb, hml, hown, hts, hret, htab, hZ, hA, hlk, htr⟩ := B
  intro H locs ls rest q ce hP hD hS hL hq hv hcl
  exact kk H locs ls rest q ce (xP_perm h hP) (xD_perm h hD) hS hL hq hv hcl
def xNG : List Cond := xND.map Cond.declares ++ xNC.map (fun q => Cond.castable q.1 q.2)
def xNames : List String := ["java/lang/RuntimeException", "java/lang/Exception"]
theorem xNG_use {args : Array Value} {s : State} (h : xN s) : ∀ w ∈ xNG, w.before args s = true := by
  intro w hw
  rcases List.mem_append.mp hw with hw | hw
  · obtain ⟨q, hq, rfl⟩ := List.mem_map.mp hw
    exact va_Nw.use rfl (h.1 q hq)
  · obtain ⟨q, hq, rfl⟩ := List.mem_map.mp hw
    exact va_Nw.use rfl (h.2.1 q hq)
/-- throw new E("text") -/
theorem x_throw {l : Launch} {D : va_G} {e0 : Nat} {own : String} {cc : ByteArray} {nL : Nat} {ret : Option FieldType} {R : Room} {G : xGt} {X : xXt} {nm : String} {cs0 : List va_W} {post : Option Value → List va_W → Prop} {xp : String → Prop} (F : xF l D e0 own cc nL ret [] R nm cs0 post xp G X) {pc : Nat} {lv : List (Nat × Value)} {st : List Value} {k n : Nat} {ik is ic : Nat} {cls text : String}
    (hcls : Bundle.fit cls = true) (hat : (vx_atS own ic cls xNames).all (fun w => (decide (w ∈ lw_tbl) && goodWord w) || decide (w ∈ xNG)) = true) (hot : (vx_atS own ic cls xNames).all vx_ot = true)
    (m1 : Cond.classLink own ik cls ∈ lw_tbl) (m2 : Cond.initialized cls ∈ lw_tbl) (hs : (own, is, text) ∈ xNS)
    (d0 : decode cc pc = .ok (.new ik, 3)) (d3 : decode cc (pc + 3) = .ok (.dup, 1)) (d4 : decode cc (pc + 4) = .ok (.ldc is, 2)) (d6 : decode cc (pc + 6) = .ok (.invokespecial ic, 3)) (d9 : decode cc (pc + 9) = .ok (.athrow, 1))
    (hfr : 5 < R.frames) (hlo : (st.map fun v => v.category).sum + 82 ≤ R.locals) (hk : k + 1 ≤ R.cells) (hn : n + 6 ≤ R.slots) (hxp : xp cls) : G pc lv st cs0 k n := by
  obtain ⟨p, e, s, m, args, below, meth, c, A, Q, rfl, rfl, hx, hb, hml, hown, ⟨hts, hret, htab, hZ, hA, hlk, htr⟩, hnm, rfl⟩ := F
  intro H locs ls hP hD hS hL
  have ht0 : c.exceptionTable.toList = [] := htab
  obtain ⟨sa, hstr⟩ := hZ.2.1.2.2.2.2.1 (own, is, text) hs
  refine vx_throwS (names := xNames) hx hb htr hown hcls (by decide +kernel) (hts _ (xT_mem m1 rfl)) (hts _ (xT_mem m2 rfl)) hstr (fun w hw => ?_) (fun w hw => ?_) hZ.2.2.2.2.1 hZ.2.2.2.2.2 hS (hL.1.trans hml.symm) d0 d3 d4 d6 d9 (fun x hx => by rw [ht0] at hx; cases hx) hfr hlo hk hn hlk (fun t hvm hz hq => ⟨hxp, hP.kept (fun k q hk => hq q.1 (hP k q hk).lt), Nat.le_trans hS.1 hz, fun q h1 h2 => (hq q (Nat.lt_of_lt_of_le h1 hS.1)).trans (hS.2.1 q h1 h2)⟩) hS.2.2 hk hn
  · have h1 := List.all_eq_true.mp hat w hw
    simp only [Bool.or_eq_true, Bool.and_eq_true, decide_eq_true_eq] at h1
    rcases h1 with h1 | h1
    · exact hts w (xT_mem h1.1 h1.2)
    · exact xNG_use hZ.2.1 w h1
  · rcases List.mem_cons.mp hw with rfl | hw
    · rfl
    · rcases List.mem_cons.mp hw with rfl | hw
      · rfl
      · exact List.all_eq_true.mp hot w hw
/-- caught here -/
theorem x_catch {l : Launch} {D : va_G} {e0 : Nat} {own : String} {cc : ByteArray} {nL : Nat} {ret : Option FieldType} {hh : List (Nat × Nat × Nat × Nat)} {R : Room} {G : xGt} {X : xXt} (B : xB l D e0 own cc nL ret hh R G X) {E : String} {pc : Nat} {lv : List (Nat × Value)} {cs : List va_W} {k n : Nat} (pre : List ExceptionTableEntry) (x9 : ExceptionTableEntry) (suf : List ExceptionTableEntry) (hsp : tableOf hh = pre ++ x9 :: suf) (hpass : ∀ z ∈ pre, z.catchType ≠ 0 ∧ ∃ nm : String, Cond.classLink own z.catchType nm ∈ lw_tbl ∧ (E, nm) ∈ xNN) (hcov : covers x9 pc = true) (h0 : x9.catchType ≠ 0) (hw : Cond.classLink own x9.catchType E ∈ lw_tbl) (hc : (E, E) ∈ xNC) (kk : ∀ q : Nat, G x9.handlerPc lv [.ref q] cs k n) : X E pc lv cs k n := by
  obtain ⟨p, e, s, m, args, below, meth, c, A, Q, rfl, rfl, hx, hb, hml, hown, hts, hret, htab, hZ, hA, hlk, htr⟩ := B
  intro H locs ls rest q ce hP hD hS hL hq hv hcl
  refine vx_catch hown pre x9 suf (htab.trans hsp) (fun z hz => ?_) hcov h0 (hts _ (xT_mem hw rfl)) (va_Nw.use rfl (hZ.2.1.2.1 (E, E) hc)) hq hv hcl (kk q H locs ls hP hD hS hL)
  obtain ⟨z0, nm, hz1, hz2⟩ := hpass z hz
  exact Or.inr ⟨z0, nm, hts _ (xT_mem hz1 rfl), hZ.2.1.2.2.2.2.2.1 (E, nm) hz2⟩
section CORE
variable {p : Program} {l : Launch} {e : Env} {R : Room} {s : State} {m : MethodId} {args : Array Value} {below : List Frame} {meth : Method} {c : Code} {H : Heap} {locs : List Loc} {k n : Nat} {Q : State → Prop}
variable {mc ms : Nat} {A : Nat → Prop} {a : Array Value} {pc : Nat} {ls : Array Slot} {st0 rest : List Value} {D : va_G} {e0 : Nat} {wc : List va_W} {post : Option Value → List va_W → Prop} {xp : String → Prop}
theorem xcall_core (hr : vx_Run p l e R s m args below meth c H locs k n mc ms (F0 m pc ls st0) rest (xQ D (va_A wc.flatten H.size) post a) (xXC D (va_A wc.flatten H.size) wc xp) (va_A wc.flatten H.size)) (hS : va_S A s.heap H locs) (hFc : ∀ q, va_A wc.flatten H.size q → A q)
    (kx : ∀ (E : String) (ce : Cell) (q9 : Addr) (H1 : Heap) (locs1 : List Loc), xp E → va_P D vwCl wc.flatten H1 → (∀ q : Nat, q < H.size → ¬ va_A wc.flatten H.size q → H1[q]? = H[q]?) → va_S A s.heap H1 locs1 → H1[q9]? = some ce → ce.vm = .none → s.vm.findClass E = some ce.cls → vx_W p l e R s m args below meth c H1 locs1 (k + mc) (n + ms) Q (F0 m pc ls rest) q9)
    (kk : ∀ (v : Option Value) (cs1 : List va_W) (H1 : Heap) (locs1 : List Loc), post v cs1 → va_P D vwCl cs1.flatten H1 → va_D (va_A wc.flatten H.size) cs1.flatten → (∀ q : Nat, q < H.size → ¬ va_A wc.flatten H.size q → H1[q]? = H[q]?) → va_S A s.heap H1 locs1 → W p l e R s m args below meth c H1 locs1 (k + mc) (n + ms) Q (F0 m (pc + 3) ls (v.toList ++ rest))) :
    W p l e R s m args below meth c H locs k n Q (F0 m pc ls st0) := by
  intro T hT X
  rcases hr T hT X with ⟨v, st₀, t, T', L, h0, X', hL, e1, e2, ⟨⟨v', cs1, hv, hp, hP1, hD1⟩, hF⟩, st⟩ | ⟨q, st₀, t, T', L, E, ce, h0, X', hL, e1, e2, ⟨hp, hb, hF⟩, hce, hcv, hcl, st⟩
  · cases hv
    obtain ⟨k1, k2, k3⟩ := vx_keep h0 e1 hS (fun q _ h => hFc q h) hFc hL hF
    obtain ⟨t2, a1, b1⟩ := kk v cs1 T'.heap (locs ++ L) hp (by rw [e1]; exact hP1) hD1 k2 k3 T' rfl X'
    exact ⟨t2, st t2 a1, b1⟩
  · obtain ⟨k1, k2, k3⟩ := vx_keep h0 e1 hS (fun q _ h => hFc q h) hFc hL hF
    obtain ⟨t2, a1, b1⟩ := kx E ce q T'.heap (locs ++ L) hp (by rw [e1]; exact hb) k2 k3 (by rw [e1]; exact hce) hcv hcl T' rfl X'
    exact ⟨t2, st.trans a1, b1⟩
theorem xPre_of {U : State} {cs : List va_W} (hPc : va_P D vwCl cs.flatten H) (hDc : va_D A cs.flatten) (hZ : xZ D e0 (va_A cs.flatten H.size) s H) (hU : U.heap = H) (hW : s.WarmedH U.vm) : xPre D e0 cs H.size U := by
  subst hU
  exact ⟨rfl, hPc, hDc.weaken (fun _ _ _ _ => trivial), xZ.warm hW hZ⟩
end CORE
theorem xput_same : ∀ (is : List Nat) (cs wc : List va_W), is.map (fun i => cs[i]?) = wc.map some → xput cs is wc = cs
  | [], cs, wc, h => by
    cases wc with
    | nil => exact List.append_nil cs
    | cons c r => simp at h
  | i :: is, cs, wc, h => by
    cases wc with
    | nil => simp at h
    | cons c r =>
      simp only [List.map_cons, List.cons.injEq] at h
      have e : cs.set i c = cs := by
        obtain ⟨hl, e⟩ := List.getElem?_eq_some_iff.mp h.1
        rw [← e]
        exact List.set_getElem_self hl
      show xput (cs.set i c) is r = cs
      rw [e]
      exact xput_same is cs r h.2
theorem xwsV {own C : String} {index : Nat} {y : MethodName} {w : Cond} (m1 : Cond.methodLink own index y ∈ lw_tbl) (m2 : Cond.instanceMethod y ∈ lw_tbl) (m3 : Cond.selects C y y ∈ lw_tbl) (m4 : Cond.initialized C ∈ lw_tbl) (m5 : w ∈ xT) : GoodIn xT (wsV own index C y (w :: xT)) := by
  refine goodIn_app (fun z hz => ?_) (xT_cons m5)
  have h4 : ∀ z ∈ ([.methodLink own index y, .instanceMethod y, .selects C y y, .initialized C] : List Cond), z ∈ xT := by
    simp only [List.forall_mem_cons]
    exact ⟨xT_mem m1 rfl, xT_mem m2 rfl, xT_mem m3 rfl, xT_mem m4 rfl, fun _ h => nomatch h⟩
  exact ⟨h4 z hz, good_of_word (List.mem_filter.mp (h4 z hz)).2⟩
theorem xwsS {own : String} {index : Nat} {y : MethodName} {w : Cond} (m1 : Cond.methodLink own index y ∈ lw_tbl) (m2 : Cond.static y ∈ lw_tbl) (m4 : Cond.initialized y.cls ∈ lw_tbl) (m5 : w ∈ xT) : GoodIn xT (va_wsS own index y (w :: xT)) := by
  refine goodIn_app (fun z hz => ?_) (xT_cons m5)
  have h4 : ∀ z ∈ ([.methodLink own index y, .static y, .initialized y.cls] : List Cond), z ∈ xT := by
    simp only [List.forall_mem_cons]
    exact ⟨xT_mem m1 rfl, xT_mem m2 rfl, xT_mem m4 rfl, fun _ h => nomatch h⟩
  exact ⟨h4 z hz, good_of_word (List.mem_filter.mp (h4 z hz)).2⟩
theorem x_callV {l : Launch} {D : va_G} {e0 : Nat} {own : String} {cc : ByteArray} {nL : Nat} {ret : Option FieldType} {hh : List (Nat × Nat × Nat × Nat)} {R : Room} {G : xGt} {X : xXt} (B : xB l D e0 own cc nL ret hh R G X) {pc : Nat} {lv : List (Nat × Value)} {st : List Value} {cs : List va_W} {k n : Nat} {index : Nat} {y : MethodName} {cc9 : ByteArray} {nL9 : Nat} {ret9 : Option FieldType} {rm : Room} {As stk : List Value} {wc : List va_W} {post9 : Option Value → List va_W → Prop} {xp9 : String → Prop} {ci : Nat} {C : String} {T : u_T} {N : Nat} {ty : Nat → FieldType} {b : Nat} {fs : List Value} {ch : va_W} (hM : xC l y (.code y cc9 nL9 ret9) rm D e0 (.ref b :: As) wc post9 xp9) (hc : xCl ci C T N ty) (hyc : y.cls = C) (i j : Nat) (hi : wc[i]? = some ch) (hj : ch[j]? = some (b, .inr (ci, fs))) (m1 : Cond.methodLink own index y ∈ lw_tbl) (m2 : Cond.instanceMethod y ∈ lw_tbl) (m3 : Cond.selects C y y ∈ lw_tbl) (m4 : Cond.initialized C ∈ lw_tbl) (m5 : Cond.code y cc9 nL9 ret9 ∈ lw_tbl) (hd : y.cls ≠ "java/lang/invoke/MethodHandle" ∧ y.cls ≠ "java/lang/invoke/VarHandle" ∧ (parseMethodDescriptor y.desc).map (fun d => d.parameters.length) = some As.length) (hR : rm.frames + 1 ≤ R.frames ∧ 8 + (nL9 + 11) + rm.locals ≤ R.locals) (is : List Nat) (hpk : is.map (fun i => cs[i]?) = wc.map some) (hnd : va_nd is = true) (hst : stk = As.reverse ++ .ref b :: st) (hcat : (st.map fun v => v.category).sum ≤ 8) (hk : k + rm.cells ≤ R.cells) (hn : n + rm.slots ≤ R.slots) (hdg : decode cc pc = .ok (.invokevirtual index, 3)) (kx : ∀ E, xp9 E → X E pc lv cs (k + rm.cells) (n + rm.slots)) (kk : ∀ (v : Option Value) (cs1 : List va_W), post9 v cs1 → G (pc + 3) lv (v.toList ++ st) (xput cs is cs1) (k + rm.cells) (n + rm.slots)) : G pc lv stk cs k n := by
  subst hst
  obtain ⟨p, e, s, m, args, below, meth, c, A, Q, rfl, rfl, hx, hb, hml, hown, hts, hret, htab, hZ, hA, hlk, htr⟩ := B
  intro H locs ls hP hD hS hL
  obtain ⟨hPc, hDc⟩ := xpick hP hD hpk hnd
  have hFc := xfree hDc hS hA
  have hZc := (hZ.kept hS.2.1).narrow hFc
  refine xcall_core (D := D) (wc := wc) (post := post9) (xp := xp9) (A := A) (vx_runV (C := C) (As := As) (rest := st) (b := b) (n := As.length) ⟨hx, hb, hml, hown, hts⟩ (hM H.size) (cwV As.length hts (xwsV m1 m2 m3 m4 (xT_mem m5 rfl)) rfl rfl rfl ⟨hyc, hd.1, hd.2.1, hd.2.2⟩ hR) ⟨xPre.blind, (by obtain ⟨q0, hq⟩ := xfl_mem hi hj; exact va_recv hZ.1 hPc hc.1 hq), fun U hU hW => ⟨rfl, xPre_of hPc hDc hZc hU hW⟩⟩ rfl rfl hL.1 rfl (lv_room hcat) hdg ⟨hk, hn⟩) hS hFc (fun E ce q9 H1 locs1 hxE hP1 hk1 hS1 h1 h2 h3 => ?_) (fun v cs1 H1 locs1 hp1 hP1 hD1 hk1 hS1 => ?_)
  · obtain ⟨hP2, hD2⟩ := xjoin hP hD hpk hnd hk1 hFc hP1 hDc.self
    rw [xput_same is cs wc hpk] at hP2 hD2
    exact kx E hxE H1 locs1 ls st q9 ce hP2 hD2 hS1 hL h1 h2 h3
  · obtain ⟨hP2, hD2⟩ := xjoin hP hD hpk hnd hk1 hFc hP1 hD1
    exact kk v cs1 hp1 H1 locs1 ls hP2 hD2 hS1 hL
theorem x_callS {l : Launch} {D : va_G} {e0 : Nat} {own : String} {cc : ByteArray} {nL : Nat} {ret : Option FieldType} {hh : List (Nat × Nat × Nat × Nat)} {R : Room} {G : xGt} {X : xXt} (B : xB l D e0 own cc nL ret hh R G X) {pc : Nat} {lv : List (Nat × Value)} {st : List Value} {cs : List va_W} {k n : Nat} {index : Nat} {y : MethodName} {cc9 : ByteArray} {nL9 : Nat} {ret9 : Option FieldType} {rm : Room} {As stk : List Value} {wc : List va_W} {post9 : Option Value → List va_W → Prop} {xp9 : String → Prop} (hM : xC l y (.code y cc9 nL9 ret9) rm D e0 As wc post9 xp9) (m1 : Cond.methodLink own index y ∈ lw_tbl) (m2 : Cond.static y ∈ lw_tbl) (m4 : Cond.initialized y.cls ∈ lw_tbl) (m5 : Cond.code y cc9 nL9 ret9 ∈ lw_tbl) (hd : y.cls ≠ "java/lang/invoke/MethodHandle" ∧ y.cls ≠ "java/lang/invoke/VarHandle" ∧ (parseMethodDescriptor y.desc).map (fun d => d.parameters.length) = some As.length) (hR : rm.frames + 1 ≤ R.frames ∧ 8 + (nL9 + 11) + rm.locals ≤ R.locals) (is : List Nat) (hpk : is.map (fun i => cs[i]?) = wc.map some) (hnd : va_nd is = true) (hst : stk = As.reverse ++ st) (hcat : (st.map fun v => v.category).sum ≤ 8) (hk : k + rm.cells ≤ R.cells) (hn : n + rm.slots ≤ R.slots) (hdg : decode cc pc = .ok (.invokestatic index, 3)) (kx : ∀ E, xp9 E → X E pc lv cs (k + rm.cells) (n + rm.slots)) (kk : ∀ (v : Option Value) (cs1 : List va_W), post9 v cs1 → G (pc + 3) lv (v.toList ++ st) (xput cs is cs1) (k + rm.cells) (n + rm.slots)) : G pc lv stk cs k n := by
  subst hst
  obtain ⟨p, e, s, m, args, below, meth, c, A, Q, rfl, rfl, hx, hb, hml, hown, hts, hret, htab, hZ, hA, hlk, htr⟩ := B
  intro H locs ls hP hD hS hL
  obtain ⟨hPc, hDc⟩ := xpick hP hD hpk hnd
  have hFc := xfree hDc hS hA
  have hZc := (hZ.kept hS.2.1).narrow hFc
  refine xcall_core (D := D) (wc := wc) (post := post9) (xp := xp9) (A := A) (vx_runS (As := As) (rest := st) (n := As.length) ⟨hx, hb, hml, hown, hts⟩ (hM H.size) (va_cwS As.length hts (xwsS m1 m2 m4 (xT_mem m5 rfl)) rfl rfl rfl hd hR) ⟨xPre.blind, fun U hU hW => ⟨rfl, xPre_of hPc hDc hZc hU hW⟩⟩ rfl rfl hL.1 rfl (lv_room hcat) hdg ⟨hk, hn⟩) hS hFc (fun E ce q9 H1 locs1 hxE hP1 hk1 hS1 h1 h2 h3 => ?_) (fun v cs1 H1 locs1 hp1 hP1 hD1 hk1 hS1 => ?_)
  · obtain ⟨hP2, hD2⟩ := xjoin hP hD hpk hnd hk1 hFc hP1 hDc.self
    rw [xput_same is cs wc hpk] at hP2 hD2
    exact kx E hxE H1 locs1 ls st q9 ce hP2 hD2 hS1 hL h1 h2 h3
  · obtain ⟨hP2, hD2⟩ := xjoin hP hD hpk hnd hk1 hFc hP1 hD1
    exact kk v cs1 hp1 H1 locs1 ls hP2 hD2 hS1 hL
theorem x_callSX {l : Launch} {D : va_G} {e0 : Nat} {own : String} {cc : ByteArray} {nL : Nat} {ret : Option FieldType} {hh : List (Nat × Nat × Nat × Nat)} {R : Room} {G : xGt} {X : xXt} (B : xB l D e0 own cc nL ret hh R G X) {pc : Nat} {lv : List (Nat × Value)} {st : List Value} {cs : List va_W} {k n : Nat} {index : Nat} {y : MethodName} {cc9 : ByteArray} {nL9 : Nat} {ret9 : Option FieldType} {rm : Room} {As stk : List Value} {wc : List va_W} {post9 : Option Value → List va_W → Prop} {xp9 : String → Prop} {hh9 : List (Nat × Nat × Nat × Nat)} (hM : xC l y (.codeWith y cc9 nL9 ret9 hh9) rm D e0 As wc post9 xp9) (m1 : Cond.methodLink own index y ∈ lw_tbl) (m2 : Cond.static y ∈ lw_tbl) (m4 : Cond.initialized y.cls ∈ lw_tbl) (m5 : Cond.codeWith y cc9 nL9 ret9 hh9 ∈ lw_tbl) (hd : y.cls ≠ "java/lang/invoke/MethodHandle" ∧ y.cls ≠ "java/lang/invoke/VarHandle" ∧ (parseMethodDescriptor y.desc).map (fun d => d.parameters.length) = some As.length) (hR : rm.frames + 1 ≤ R.frames ∧ 8 + (nL9 + 11) + rm.locals ≤ R.locals) (is : List Nat) (hpk : is.map (fun i => cs[i]?) = wc.map some) (hnd : va_nd is = true) (hst : stk = As.reverse ++ st) (hcat : (st.map fun v => v.category).sum ≤ 8) (hk : k + rm.cells ≤ R.cells) (hn : n + rm.slots ≤ R.slots) (hdg : decode cc pc = .ok (.invokestatic index, 3)) (kx : ∀ E, xp9 E → X E pc lv cs (k + rm.cells) (n + rm.slots)) (kk : ∀ (v : Option Value) (cs1 : List va_W), post9 v cs1 → G (pc + 3) lv (v.toList ++ st) (xput cs is cs1) (k + rm.cells) (n + rm.slots)) : G pc lv stk cs k n := by
  subst hst
  obtain ⟨p, e, s, m, args, below, meth, c, A, Q, rfl, rfl, hx, hb, hml, hown, hts, hret, htab, hZ, hA, hlk, htr⟩ := B
  intro H locs ls hP hD hS hL
  obtain ⟨hPc, hDc⟩ := xpick hP hD hpk hnd
  have hFc := xfree hDc hS hA
  have hZc := (hZ.kept hS.2.1).narrow hFc
  refine xcall_core (D := D) (wc := wc) (post := post9) (xp := xp9) (A := A) (vx_runSX (As := As) (rest := st) (n := As.length) ⟨hx, hb, hml, hown, hts⟩ (hM H.size) (vx_cwSW As.length hts (xwsS m1 m2 m4 (xT_mem m5 rfl)) rfl rfl rfl hd hR) ⟨xPre.blind, fun U hU hW => ⟨rfl, xPre_of hPc hDc hZc hU hW⟩⟩ rfl rfl hL.1 rfl (lv_room hcat) hdg ⟨hk, hn⟩) hS hFc (fun E ce q9 H1 locs1 hxE hP1 hk1 hS1 h1 h2 h3 => ?_) (fun v cs1 H1 locs1 hp1 hP1 hD1 hk1 hS1 => ?_)
  · obtain ⟨hP2, hD2⟩ := xjoin hP hD hpk hnd hk1 hFc hP1 hDc.self
    rw [xput_same is cs wc hpk] at hP2 hD2
    exact kx E hxE H1 locs1 ls st q9 ce hP2 hD2 hS1 hL h1 h2 h3
  · obtain ⟨hP2, hD2⟩ := xjoin hP hD hpk hnd hk1 hFc hP1 hD1
    exact kk v cs1 hp1 H1 locs1 ls hP2 hD2 hS1 hL
theorem x_callSN {l : Launch} {D : va_G} {e0 : Nat} {own : String} {cc : ByteArray} {nL : Nat} {ret : Option FieldType} {hh : List (Nat × Nat × Nat × Nat)} {R : Room} {G : xGt} {X : xXt} (B : xB l D e0 own cc nL ret hh R G X) {pc : Nat} {lv : List (Nat × Value)} {st : List Value} {cs : List va_W} {k n : Nat} {index : Nat} {y : MethodName} {cc9 : ByteArray} {nL9 : Nat} {ret9 : Option FieldType} {rm : Room} {As stk : List Value} {wc : List va_W} {post9 : Option Value → List va_W → Prop} {xp9 : String → Prop} {host : String} (hM : xC l y (.code y cc9 nL9 ret9) rm D e0 As wc post9 xp9) (m1 : (own, index, y, host) ∈ xNM) (m2 : Cond.static y ∈ lw_tbl) (m4 : Cond.initialized y.cls ∈ lw_tbl) (m5 : Cond.code y cc9 nL9 ret9 ∈ lw_tbl) (hd : y.cls ≠ "java/lang/invoke/MethodHandle" ∧ y.cls ≠ "java/lang/invoke/VarHandle" ∧ (parseMethodDescriptor y.desc).map (fun d => d.parameters.length) = some As.length) (hR : rm.frames + 1 ≤ R.frames ∧ 8 + (nL9 + 11) + rm.locals ≤ R.locals) (is : List Nat) (hpk : is.map (fun i => cs[i]?) = wc.map some) (hnd : va_nd is = true) (hst : stk = As.reverse ++ st) (hcat : (st.map fun v => v.category).sum ≤ 8) (hk : k + rm.cells ≤ R.cells) (hn : n + rm.slots ≤ R.slots) (hdg : decode cc pc = .ok (.invokestatic index, 3)) (kx : ∀ E, xp9 E → X E pc lv cs (k + rm.cells) (n + rm.slots)) (kk : ∀ (v : Option Value) (cs1 : List va_W), post9 v cs1 → G (pc + 3) lv (v.toList ++ st) (xput cs is cs1) (k + rm.cells) (n + rm.slots)) : G pc lv stk cs k n := by
  subst hst
  obtain ⟨p, e, s, m, args, below, meth, c, A, Q, rfl, rfl, hx, hb, hml, hown, hts, hret, htab, hZ, hA, hlk, htr⟩ := B
  intro H locs ls hP hD hS hL
  obtain ⟨hPc, hDc⟩ := xpick hP hD hpk hnd
  have hFc := xfree hDc hS hA
  have hZc := (hZ.kept hS.2.1).narrow hFc
  refine xcall_core (D := D) (wc := wc) (post := post9) (xp := xp9) (A := A) (vx_runSN (As := As) (rest := st) (n := As.length) ⟨hx, hb, hml, hown, hts⟩ (hM H.size) ⟨va_cnB As.length hts (xT_cons (xT_mem m5 rfl)) rfl rfl rfl (hZ.2.1.2.2.1 (own, index, y, host) m1) (hts _ (xT_mem m4 rfl)) hd hR, hts _ (xT_mem m2 rfl), trivial⟩ ⟨xPre.blind, fun U hU hW => ⟨rfl, xPre_of hPc hDc hZc hU hW⟩⟩ rfl rfl hL.1 rfl (lv_room hcat) hdg ⟨hk, hn⟩) hS hFc (fun E ce q9 H1 locs1 hxE hP1 hk1 hS1 h1 h2 h3 => ?_) (fun v cs1 H1 locs1 hp1 hP1 hD1 hk1 hS1 => ?_)
  · obtain ⟨hP2, hD2⟩ := xjoin hP hD hpk hnd hk1 hFc hP1 hDc.self
    rw [xput_same is cs wc hpk] at hP2 hD2
    exact kx E hxE H1 locs1 ls st q9 ce hP2 hD2 hS1 hL h1 h2 h3
  · obtain ⟨hP2, hD2⟩ := xjoin hP hD hpk hnd hk1 hFc hP1 hD1
    exact kk v cs1 hp1 H1 locs1 ls hP2 hD2 hS1 hL
theorem x_callI {l : Launch} {D : va_G} {e0 : Nat} {own : String} {cc : ByteArray} {nL : Nat} {ret : Option FieldType} {hh : List (Nat × Nat × Nat × Nat)} {R : Room} {G : xGt} {X : xXt} (B : xB l D e0 own cc nL ret hh R G X) {pc : Nat} {lv : List (Nat × Value)} {st : List Value} {cs : List va_W} {k n : Nat} {index : Nat} {y : MethodName} {cc9 : ByteArray} {nL9 : Nat} {rm : Room} {As stk : List Value} {wc : List va_W} {post9 : Option Value → List va_W → Prop} {xp9 : String → Prop} {b : Nat} (hM : xC l y (.code y cc9 nL9 none) rm D e0 (.ref b :: As) wc post9 xp9) (hin : y.name = "<init>") (m1 : Cond.methodLink own index y ∈ lw_tbl) (m2 : Cond.instanceMethod y ∈ lw_tbl) (m4 : Cond.initialized y.cls ∈ lw_tbl) (m5 : Cond.code y cc9 nL9 none ∈ lw_tbl) (hd : y.cls ≠ "java/lang/invoke/MethodHandle" ∧ y.cls ≠ "java/lang/invoke/VarHandle" ∧ (parseMethodDescriptor y.desc).map (fun d => d.parameters.length) = some As.length) (hR : rm.frames + 1 ≤ R.frames ∧ 8 + (nL9 + 11) + rm.locals ≤ R.locals) (is : List Nat) (hpk : is.map (fun i => cs[i]?) = wc.map some) (hnd : va_nd is = true) (hst : stk = As.reverse ++ .ref b :: st) (hcat : (st.map fun v => v.category).sum ≤ 8) (hk : k + rm.cells ≤ R.cells) (hn : n + rm.slots ≤ R.slots) (hdg : decode cc pc = .ok (.invokespecial index, 3)) (kx : ∀ E, xp9 E → X E pc lv cs (k + rm.cells) (n + rm.slots)) (kk : ∀ (v : Option Value) (cs1 : List va_W), post9 v cs1 → G (pc + 3) lv (v.toList ++ st) (xput cs is cs1) (k + rm.cells) (n + rm.slots)) : G pc lv stk cs k n := by
  subst hst
  obtain ⟨p, e, s, m, args, below, meth, c, A, Q, rfl, rfl, hx, hb, hml, hown, hts, hret, htab, hZ, hA, hlk, htr⟩ := B
  intro H locs ls hP hD hS hL
  obtain ⟨hPc, hDc⟩ := xpick hP hD hpk hnd
  have hFc := xfree hDc hS hA
  have hZc := (hZ.kept hS.2.1).narrow hFc
  refine xcall_core (D := D) (wc := wc) (post := post9) (xp := xp9) (A := A) (vx_runI (As := As) (rest := st) (b := b) (n := As.length) ⟨hx, hb, hml, hown, hts⟩ (hM H.size) ⟨callB_of As.length hts (xT_cons (xT_mem m5 rfl)) rfl rfl rfl (hts _ (xT_mem m4 rfl)) (hts _ (xT_mem m1 rfl)) hd hR, hin, hts _ (xT_mem m2 rfl)⟩ ⟨xPre.blind, fun U hU hW => ⟨rfl, xPre_of hPc hDc hZc hU hW⟩⟩ rfl rfl hL.1 rfl (lv_room hcat) hdg ⟨hk, hn⟩) hS hFc (fun E ce q9 H1 locs1 hxE hP1 hk1 hS1 h1 h2 h3 => ?_) (fun v cs1 H1 locs1 hp1 hP1 hD1 hk1 hS1 => ?_)
  · obtain ⟨hP2, hD2⟩ := xjoin hP hD hpk hnd hk1 hFc hP1 hDc.self
    rw [xput_same is cs wc hpk] at hP2 hD2
    exact kx E hxE H1 locs1 ls st q9 ce hP2 hD2 hS1 hL h1 h2 h3
  · obtain ⟨hP2, hD2⟩ := xjoin hP hD hpk hnd hk1 hFc hP1 hD1
    exact kk v cs1 hp1 H1 locs1 ls hP2 hD2 hS1 hL
theorem x_callIN {l : Launch} {D : va_G} {e0 : Nat} {own : String} {cc : ByteArray} {nL : Nat} {ret : Option FieldType} {hh : List (Nat × Nat × Nat × Nat)} {R : Room} {G : xGt} {X : xXt} (B : xB l D e0 own cc nL ret hh R G X) {pc : Nat} {lv : List (Nat × Value)} {st : List Value} {cs : List va_W} {k n : Nat} {index : Nat} {y : MethodName} {cc9 : ByteArray} {nL9 : Nat} {rm : Room} {As stk : List Value} {wc : List va_W} {post9 : Option Value → List va_W → Prop} {xp9 : String → Prop} {host : String} {b : Nat} (hM : xC l y (.code y cc9 nL9 none) rm D e0 (.ref b :: As) wc post9 xp9) (hin : y.name = "<init>") (m1 : (own, index, y, host) ∈ xNM) (m2 : Cond.instanceMethod y ∈ lw_tbl) (m4 : Cond.initialized y.cls ∈ lw_tbl) (m5 : Cond.code y cc9 nL9 none ∈ lw_tbl) (hd : y.cls ≠ "java/lang/invoke/MethodHandle" ∧ y.cls ≠ "java/lang/invoke/VarHandle" ∧ (parseMethodDescriptor y.desc).map (fun d => d.parameters.length) = some As.length) (hR : rm.frames + 1 ≤ R.frames ∧ 8 + (nL9 + 11) + rm.locals ≤ R.locals) (is : List Nat) (hpk : is.map (fun i => cs[i]?) = wc.map some) (hnd : va_nd is = true) (hst : stk = As.reverse ++ .ref b :: st) (hcat : (st.map fun v => v.category).sum ≤ 8) (hk : k + rm.cells ≤ R.cells) (hn : n + rm.slots ≤ R.slots) (hdg : decode cc pc = .ok (.invokespecial index, 3)) (kx : ∀ E, xp9 E → X E pc lv cs (k + rm.cells) (n + rm.slots)) (kk : ∀ (v : Option Value) (cs1 : List va_W), post9 v cs1 → G (pc + 3) lv (v.toList ++ st) (xput cs is cs1) (k + rm.cells) (n + rm.slots)) : G pc lv stk cs k n := by
  subst hst
  obtain ⟨p, e, s, m, args, below, meth, c, A, Q, rfl, rfl, hx, hb, hml, hown, hts, hret, htab, hZ, hA, hlk, htr⟩ := B
  intro H locs ls hP hD hS hL
  obtain ⟨hPc, hDc⟩ := xpick hP hD hpk hnd
  have hFc := xfree hDc hS hA
  have hZc := (hZ.kept hS.2.1).narrow hFc
  refine xcall_core (D := D) (wc := wc) (post := post9) (xp := xp9) (A := A) (vx_runIN (As := As) (rest := st) (b := b) (n := As.length) ⟨hx, hb, hml, hown, hts⟩ (hM H.size) ⟨va_cnB As.length hts (xT_cons (xT_mem m5 rfl)) rfl rfl rfl (hZ.2.1.2.2.1 (own, index, y, host) m1) (hts _ (xT_mem m4 rfl)) hd hR, hin, hts _ (xT_mem m2 rfl)⟩ ⟨xPre.blind, fun U hU hW => ⟨rfl, xPre_of hPc hDc hZc hU hW⟩⟩ rfl rfl hL.1 rfl (lv_room hcat) hdg ⟨hk, hn⟩) hS hFc (fun E ce q9 H1 locs1 hxE hP1 hk1 hS1 h1 h2 h3 => ?_) (fun v cs1 H1 locs1 hp1 hP1 hD1 hk1 hS1 => ?_)
  · obtain ⟨hP2, hD2⟩ := xjoin hP hD hpk hnd hk1 hFc hP1 hDc.self
    rw [xput_same is cs wc hpk] at hP2 hD2
    exact kx E hxE H1 locs1 ls st q9 ce hP2 hD2 hS1 hL h1 h2 h3
  · obtain ⟨hP2, hD2⟩ := xjoin hP hD hpk hnd hk1 hFc hP1 hD1
    exact kk v cs1 hp1 H1 locs1 ls hP2 hD2 hS1 hL
end
section
/-! LIB D: the classes, the chunks of the two worlds, rows over numbers that are places -/
theorem xcl_of {ci : Nat} {C : String} {T : u_T} {N : Nat} {ty : Nat → FieldType} (h1 : vwCl[ci]? = some (C, T, N)) (h2 : (u_ws C T N).all (fun w => decide (w ∈ lw_tbl) && goodWord w) = true) (h3 : ∀ k, k < N → parseFieldDescriptor (T k).2.2.1 = some (ty k)) (h4 : ∀ a, a < N → ∀ b, b < N → a ≠ b → (T a).2.1 ≠ (T b).2.1) : xCl ci C T N ty :=
  ⟨h1, fun w hw => by
    have h := List.all_eq_true.mp h2 w hw
    simp only [Bool.and_eq_true, decide_eq_true_eq] at h
    exact xT_mem h.1 h.2, h3, h4⟩
theorem xcl_A : xCl 0 RJx4a65c TJx4a65c 3 tyJx4a65c := xcl_of rfl (by decide +kernel) tyJx4a65c_ok nmJx4a65c
theorem xcl_D : xCl 1 RX0 TX0 12 tyX0 := xcl_of rfl (by decide +kernel) tyX0_ok nmX0
theorem xcl_L : xCl 2 RX1 TX1 4 tyX1 := xcl_of rfl (by decide +kernel) tyX1_ok nmX1
theorem xcl_R : xCl 3 RX2 TX2 5 tyX2 := xcl_of rfl (by decide +kernel) tyX2_ok nmX2
theorem xcl_X : xCl 4 RX3 TX3 8 tyX3 := xcl_of rfl (by decide +kernel) tyX3_ok nmX3
theorem xcl_M : xCl 5 RX4 TX4 28 tyX4 := xcl_of rfl (by decide +kernel) tyX4_ok nmX4
/-- the state of both sides: rows of numbers by kind and place -/
abbrev xS : Type := Nat → Nat → Int32
def xup (F : xS) (f d : Nat) (v : Int32) : xS := fun k => if k = f then upd (F k) d v else F k
theorem xup_same (F : xS) (f d : Nat) (v : Int32) : xup F f d v f d = v := by simp [xup, upd]
theorem xup_ne {F : xS} {f d k j : Nat} {v : Int32} (h : k ≠ f ∨ j ≠ d) : xup F f d v k j = F k j := by
  unfold xup
  by_cases hk : k = f
  · rw [if_pos hk]
    rcases h with h | h
    · exact absurd hk h
    · simp [upd, h]
  · rw [if_neg hk]
theorem xup_k {F : xS} {f d k : Nat} {v : Int32} (h : k ≠ f) : xup F f d v k = F k := by unfold xup; rw [if_neg h]
theorem xup_f {F : xS} {f d : Nat} {v : Int32} : xup F f d v f = upd (F f) d v := by unfold xup; rw [if_pos rfl]
theorem xup_id {F : xS} {f d : Nat} {v : Int32} (h : F f d = v) : xup F f d v = F := by
  funext k j
  by_cases hk : k = f
  · by_cases hj : j = d
    · subst hk; subst hj; rw [xup_same, h]
    · exact xup_ne (Or.inr hj)
  · exact xup_ne (Or.inl hk)
theorem xup_xup {F : xS} {f d : Nat} {v w : Int32} : xup (xup F f d v) f d w = xup F f d w := by
  funext k j
  by_cases hk : k = f
  · by_cases hj : j = d
    · subst hk; subst hj; rw [xup_same, xup_same]
    · rw [xup_ne (Or.inr hj), xup_ne (Or.inr hj), xup_ne (Or.inr hj)]
  · rw [xup_ne (Or.inl hk), xup_ne (Or.inl hk), xup_ne (Or.inl hk)]
theorem xup_comm {F : xS} {f d g c : Nat} {v w : Int32} (h : f ≠ g ∨ d ≠ c) : xup (xup F f d v) g c w = xup (xup F g c w) f d v := by
  funext k j
  by_cases h1 : k = f ∧ j = d
  · obtain ⟨rfl, rfl⟩ := h1
    rw [xup_same, xup_ne h, xup_same]
  · have h1' : k ≠ f ∨ j ≠ d := by
      by_cases hk : k = f
      · exact Or.inr (fun hj => h1 ⟨hk, hj⟩)
      · exact Or.inl hk
    rw [xup_ne (F := xup F g c w) h1']
    by_cases h2 : k = g ∧ j = c
    · obtain ⟨rfl, rfl⟩ := h2
      rw [xup_same, xup_same]
    · have h2' : k ≠ g ∨ j ≠ c := by
        by_cases hk : k = g
        · exact Or.inr (fun hj => h2 ⟨hk, hj⟩)
        · exact Or.inl hk
      rw [xup_ne h2', xup_ne h2', xup_ne h1']
abbrev xqs (f : Nat → Option Nat) : (Nat → Int32) ⊕ (Nat → Int64) ⊕ (Nat → UInt32) ⊕ (Nat → UInt64) ⊕ (Nat → Option Nat) := .inr (.inr (.inr (.inr f)))
/-! the class's chunks -/
def xoW (ad : Nat → Nat) (up op tr : Int32) : va_W := [(ad 0, .inr (4, [.ref (ad 1), .ref (ad 2), .ref (ad 3), .ref (ad 4), .ref (ad 5), .int up, .int op, .int tr]))]
def lkC (ad : Nat → Nat) (S : xS) (j : Nat) : Nat × va_E := (ad (6 + j), .inr (2, [.int (S 0 j), .int (S 1 j), .int (S 2 j), .int (S 3 j)]))
def lkW (D : va_G) (ad : Nat → Nat) (S : xS) : va_W := (ad 1, .inl (D.1 13, 4, xqs (fun j => some (ad (6 + j))))) :: (List.range 4).map (lkC ad S)
abbrev xRg : Type := Nat × (Nat → Int32) × (Nat → Int32) × (Nat → Int32)
def rwW (D : va_G) (r ka sa va : Nat) (g : xRg) (n : Nat) : va_W := [(r, .inr (3, [.ref ka, .ref sa, .ref va, .int (nI g.1), .int (nI n)])), (ka, .inl (D.1 10, 512, .inl g.2.1)), (sa, .inl (D.1 10, 512, .inl g.2.2.1)), (va, .inl (D.1 10, 512, .inl g.2.2.2))]
abbrev xFr : Type := Nat × Nat × Nat
def rwOk (q : List xFr) (g : xRg) : Prop := g.1 < 512 ∧ q.length ≤ 512 ∧ ∀ (i : Nat) (x : xFr), q[i]? = some x → g.2.1 ((g.1 + i) % 512) = nI x.1 ∧ g.2.2.1 ((g.1 + i) % 512) = nI x.2.1 ∧ g.2.2.2 ((g.1 + i) % 512) = nI x.2.2
abbrev xAg : Type := Int32 × Option (Nat × Nat × (Nat → Option Nat))
def alW (D : va_G) (e0 a : Nat) (h : xAg) (n : Nat) : va_W := match h with
  | (m, none) => [(a, .inr (0, [.int m, .ref e0, .int (nI n)]))]
  | (m, some (q, c, f)) => [(a, .inr (0, [.int m, .ref q, .int (nI n)])), (q, .inl (D.1 14, c, xqs f))]
def alOk (h : xAg) (n : Nat) (w : Nat → Nat) : Prop := match h with
  | (_, none) => n = 0
  | (_, some (_, c, f)) => n ≤ c ∧ 2 ≤ c ∧ c ≤ 120 ∧ ∀ i, i < n → f i = some (w i)
def xbf (z : Int32) : Int32 := if z = 0 then 0 else 4
def dvC (da : Nat → Nat) (S : xS) (om : Nat → Int32) (d : Nat) : Nat × va_E := (da d, .inr (1, [.int (nI d), .int (S 4 d), .int (S 5 d), .int (S 6 d), .int (S 7 d), .int (S 8 d), .int (S 9 d), .int (xbf (S 11 d)), .int (S 10 d), .int (om d), .int (S 14 d), .int (S 13 d)]))
def dvW (da : Nat → Nat) (N : Nat) (S : xS) (om : Nat → Int32) : va_W := (List.range N).map (dvC da S om)
theorem lk_get {D : va_G} {ad : Nat → Nat} {S : xS} {j : Nat} (h : j < 4) : (lkW D ad S)[j + 1]? = some (ad (6 + j), .inr (2, [.int (S 0 j), .int (S 1 j), .int (S 2 j), .int (S 3 j)])) := by
  show ((List.range 4).map (lkC ad S))[j]? = _
  rw [List.getElem?_map, List.getElem?_range h]
  rfl
theorem dv_get {da : Nat → Nat} {N : Nat} {S : xS} {om : Nat → Int32} {d : Nat} (h : d < N) : (dvW da N S om)[d]? = some (dvC da S om d) := by
  unfold dvW
  rw [List.getElem?_map, List.getElem?_range h]
  rfl
theorem xmap_set {α : Type} {N d : Nat} {f g : Nat → α} {y : α} (h : d < N) (hy : g d = y) (ho : ∀ j, j ≠ d → g j = f j) : ((List.range N).map f).set d y = (List.range N).map g := by
  apply List.ext_getElem?
  intro j
  by_cases hj : j = d
  · subst hj
    rw [List.getElem?_set_self (by simpa using h), List.getElem?_map, List.getElem?_range h, ← hy]
    rfl
  · rw [List.getElem?_set_ne (Ne.symm hj), List.getElem?_map, List.getElem?_map]
    by_cases hl : j < N
    · rw [List.getElem?_range hl]
      show some (f j) = some (g j)
      rw [ho j hj]
    · rw [List.getElem?_eq_none (by simpa using hl)]
      rfl
theorem lk_set0 {D : va_G} {ad : Nat → Nat} {S : xS} {j : Nat} {v : Int32} (h : j < 4) : (lkW D ad S).set (j + 1) (ad (6 + j), .inr (2, [.int v, .int (S 1 j), .int (S 2 j), .int (S 3 j)])) = lkW D ad (xup S 0 j v) := by
  unfold lkW
  rw [List.set_cons_succ]
  congr 1
  refine xmap_set h ?_ (fun i hi => ?_)
  · simp [lkC, xup, upd]
  · simp [lkC, xup, upd, hi]
theorem lk_set1 {D : va_G} {ad : Nat → Nat} {S : xS} {j : Nat} {v : Int32} (h : j < 4) : (lkW D ad S).set (j + 1) (ad (6 + j), .inr (2, [.int (S 0 j), .int v, .int (S 2 j), .int (S 3 j)])) = lkW D ad (xup S 1 j v) := by
  unfold lkW
  rw [List.set_cons_succ]
  congr 1
  refine xmap_set h ?_ (fun i hi => ?_)
  · simp [lkC, xup, upd]
  · simp [lkC, xup, upd, hi]
theorem lk_set2 {D : va_G} {ad : Nat → Nat} {S : xS} {j : Nat} {v : Int32} (h : j < 4) : (lkW D ad S).set (j + 1) (ad (6 + j), .inr (2, [.int (S 0 j), .int (S 1 j), .int v, .int (S 3 j)])) = lkW D ad (xup S 2 j v) := by
  unfold lkW
  rw [List.set_cons_succ]
  congr 1
  refine xmap_set h ?_ (fun i hi => ?_)
  · simp [lkC, xup, upd]
  · simp [lkC, xup, upd, hi]
theorem lk_set3 {D : va_G} {ad : Nat → Nat} {S : xS} {j : Nat} {v : Int32} (h : j < 4) : (lkW D ad S).set (j + 1) (ad (6 + j), .inr (2, [.int (S 0 j), .int (S 1 j), .int (S 2 j), .int v])) = lkW D ad (xup S 3 j v) := by
  unfold lkW
  rw [List.set_cons_succ]
  congr 1
  refine xmap_set h ?_ (fun i hi => ?_)
  · simp [lkC, xup, upd]
  · simp [lkC, xup, upd, hi]
theorem dv_set4 {da : Nat → Nat} {N : Nat} {S : xS} {om : Nat → Int32} {d : Nat} {v : Int32} (h : d < N) : (dvW da N S om).set d (da d, .inr (1, [.int (nI d), .int (S 4 d), .int (S 5 d), .int (S 6 d), .int v, .int (S 8 d), .int (S 9 d), .int (xbf (S 11 d)), .int (S 10 d), .int (om d), .int (S 14 d), .int (S 13 d)])) = dvW da N (xup S 7 d v) om := by
  unfold dvW
  refine xmap_set h ?_ (fun i hi => ?_)
  · simp [dvC, xup, upd]
  · simp [dvC, xup, upd, hi]
theorem dv_set5 {da : Nat → Nat} {N : Nat} {S : xS} {om : Nat → Int32} {d : Nat} {v : Int32} (h : d < N) : (dvW da N S om).set d (da d, .inr (1, [.int (nI d), .int (S 4 d), .int (S 5 d), .int (S 6 d), .int (S 7 d), .int v, .int (S 9 d), .int (xbf (S 11 d)), .int (S 10 d), .int (om d), .int (S 14 d), .int (S 13 d)])) = dvW da N (xup S 8 d v) om := by
  unfold dvW
  refine xmap_set h ?_ (fun i hi => ?_)
  · simp [dvC, xup, upd]
  · simp [dvC, xup, upd, hi]
theorem dv_set6 {da : Nat → Nat} {N : Nat} {S : xS} {om : Nat → Int32} {d : Nat} {v : Int32} (h : d < N) : (dvW da N S om).set d (da d, .inr (1, [.int (nI d), .int (S 4 d), .int (S 5 d), .int (S 6 d), .int (S 7 d), .int (S 8 d), .int v, .int (xbf (S 11 d)), .int (S 10 d), .int (om d), .int (S 14 d), .int (S 13 d)])) = dvW da N (xup S 9 d v) om := by
  unfold dvW
  refine xmap_set h ?_ (fun i hi => ?_)
  · simp [dvC, xup, upd]
  · simp [dvC, xup, upd, hi]
theorem dv_set7 {da : Nat → Nat} {N : Nat} {S : xS} {om : Nat → Int32} {d : Nat} {v : Int32} {z : Int32} (hz : xbf z = v) (h : d < N) : (dvW da N S om).set d (da d, .inr (1, [.int (nI d), .int (S 4 d), .int (S 5 d), .int (S 6 d), .int (S 7 d), .int (S 8 d), .int (S 9 d), .int v, .int (S 10 d), .int (om d), .int (S 14 d), .int (S 13 d)])) = dvW da N (xup S 11 d z) om := by
  unfold dvW
  refine xmap_set h ?_ (fun i hi => ?_)
  · simp [dvC, xup, upd, hz]
  · simp [dvC, xup, upd, hi]
theorem dv_set8 {da : Nat → Nat} {N : Nat} {S : xS} {om : Nat → Int32} {d : Nat} {v : Int32} (h : d < N) : (dvW da N S om).set d (da d, .inr (1, [.int (nI d), .int (S 4 d), .int (S 5 d), .int (S 6 d), .int (S 7 d), .int (S 8 d), .int (S 9 d), .int (xbf (S 11 d)), .int v, .int (om d), .int (S 14 d), .int (S 13 d)])) = dvW da N (xup S 10 d v) om := by
  unfold dvW
  refine xmap_set h ?_ (fun i hi => ?_)
  · simp [dvC, xup, upd]
  · simp [dvC, xup, upd, hi]
theorem dv_set9 {da : Nat → Nat} {N : Nat} {S : xS} {om : Nat → Int32} {d : Nat} {v : Int32} (h : d < N) : (dvW da N S om).set d (da d, .inr (1, [.int (nI d), .int (S 4 d), .int (S 5 d), .int (S 6 d), .int (S 7 d), .int (S 8 d), .int (S 9 d), .int (xbf (S 11 d)), .int (S 10 d), .int v, .int (S 14 d), .int (S 13 d)])) = dvW da N S (upd om d v) := by
  unfold dvW
  refine xmap_set h ?_ (fun i hi => ?_)
  · simp [dvC, upd]
  · simp [dvC, upd, hi]
theorem dv_set10 {da : Nat → Nat} {N : Nat} {S : xS} {om : Nat → Int32} {d : Nat} {v : Int32} (h : d < N) : (dvW da N S om).set d (da d, .inr (1, [.int (nI d), .int (S 4 d), .int (S 5 d), .int (S 6 d), .int (S 7 d), .int (S 8 d), .int (S 9 d), .int (xbf (S 11 d)), .int (S 10 d), .int (om d), .int v, .int (S 13 d)])) = dvW da N (xup S 14 d v) om := by
  unfold dvW
  refine xmap_set h ?_ (fun i hi => ?_)
  · simp [dvC, xup, upd]
  · simp [dvC, xup, upd, hi]
theorem dv_set11 {da : Nat → Nat} {N : Nat} {S : xS} {om : Nat → Int32} {d : Nat} {v : Int32} (h : d < N) : (dvW da N S om).set d (da d, .inr (1, [.int (nI d), .int (S 4 d), .int (S 5 d), .int (S 6 d), .int (S 7 d), .int (S 8 d), .int (S 9 d), .int (xbf (S 11 d)), .int (S 10 d), .int (om d), .int (S 14 d), .int v])) = dvW da N (xup S 13 d v) om := by
  unfold dvW
  refine xmap_set h ?_ (fun i hi => ?_)
  · simp [dvC, xup, upd]
  · simp [dvC, xup, upd, hi]
theorem dv_push {da : Nat → Nat} {N : Nat} {S S1 : xS} {om om1 : Nat → Int32} {q : Nat} {e : va_E} (ho : ∀ j, j < N → dvC (va_up da N q) S1 om1 j = dvC da S om j) (hn : (q, e) = dvC (va_up da N q) S1 om1 N) : dvW da N S om ++ [(q, e)] = dvW (va_up da N q) (N + 1) S1 om1 := by
  unfold dvW
  rw [List.range_succ, List.map_append, List.map_singleton, hn]
  congr 1
  refine List.map_congr_left fun j hj => ?_
  exact (ho j (List.mem_range.mp hj)).symm
theorem dv_congr {da : Nat → Nat} {N : Nat} {S S1 : xS} {om om1 : Nat → Int32} (ho : ∀ j, j < N → dvC da S om j = dvC da S1 om1 j) : dvW da N S om = dvW da N S1 om1 :=
  List.map_congr_left fun j hj => ho j (List.mem_range.mp hj)
theorem lk_congr {D : va_G} {ad : Nat → Nat} {S S1 : xS} (ho : ∀ j, j < 4 → lkC ad S j = lkC ad S1 j) : lkW D ad S = lkW D ad S1 := by
  unfold lkW
  congr 1
  exact List.map_congr_left fun j hj => ho j (List.mem_range.mp hj)

theorem x_ialdN {l : Launch} {D : va_G} {e0 : Nat} {own : String} {cc : ByteArray} {nL : Nat} {ret : Option FieldType} {hh : List (Nat × Nat × Nat × Nat)} {R : Room} {G : xGt} {X : xXt} (B : xB l D e0 own cc nL ret hh R G X) {pc : Nat} {lv : List (Nat × Value)} {st : List Value} {cs : List va_W} {k n : Nat} {a m0 : Nat} {f0 : Nat → Int32} {ch : va_W} (d i j : Nat) (hd : d < m0) (hm : m0 < 2 ^ 31) (hi : cs[i]? = some ch) (hj : ch[j]? = some (a, .inl (D.1 10, m0, .inl f0))) (hdg : decode cc pc = .ok (.iaload, 1)) (kk : G (pc + 1) lv (.int (f0 d) :: st) cs k n) : G pc lv (.int (nI d) :: .ref a :: st) cs k n := by
  refine x_iald B i j hi hj (vp_in_nI hd hm) hdg ?_
  rw [nI_clamp (Nat.lt_trans hd hm)]
  exact kk
theorem x_zaldN {l : Launch} {D : va_G} {e0 : Nat} {own : String} {cc : ByteArray} {nL : Nat} {ret : Option FieldType} {hh : List (Nat × Nat × Nat × Nat)} {R : Room} {G : xGt} {X : xXt} (B : xB l D e0 own cc nL ret hh R G X) {pc : Nat} {lv : List (Nat × Value)} {st : List Value} {cs : List va_W} {k n : Nat} {a m0 : Nat} {f0 : Nat → Int32} {ch : va_W} (d i j : Nat) (hd : d < m0) (hm : m0 < 2 ^ 31) (hi : cs[i]? = some ch) (hj : ch[j]? = some (a, .inl (D.1 11, m0, .inl f0))) (hdg : decode cc pc = .ok (.baload, 1)) (kk : G (pc + 1) lv (.int (f0 d) :: st) cs k n) : G pc lv (.int (nI d) :: .ref a :: st) cs k n := by
  refine x_zald B i j hi hj (vp_in_nI hd hm) hdg ?_
  rw [nI_clamp (Nat.lt_trans hd hm)]
  exact kk
theorem x_laldN {l : Launch} {D : va_G} {e0 : Nat} {own : String} {cc : ByteArray} {nL : Nat} {ret : Option FieldType} {hh : List (Nat × Nat × Nat × Nat)} {R : Room} {G : xGt} {X : xXt} (B : xB l D e0 own cc nL ret hh R G X) {pc : Nat} {lv : List (Nat × Value)} {st : List Value} {cs : List va_W} {k n : Nat} {a m0 : Nat} {f0 : Nat → Int64} {ch : va_W} (d i j : Nat) (hd : d < m0) (hm : m0 < 2 ^ 31) (hi : cs[i]? = some ch) (hj : ch[j]? = some (a, .inl (D.1 12, m0, .inr (.inl f0)))) (hdg : decode cc pc = .ok (.laload, 1)) (kk : G (pc + 1) lv (.long (f0 d) :: st) cs k n) : G pc lv (.int (nI d) :: .ref a :: st) cs k n := by
  refine x_lald B i j hi hj (vp_in_nI hd hm) hdg ?_
  rw [nI_clamp (Nat.lt_trans hd hm)]
  exact kk
theorem x_kaldN {l : Launch} {D : va_G} {e0 : Nat} {own : String} {cc : ByteArray} {nL : Nat} {ret : Option FieldType} {hh : List (Nat × Nat × Nat × Nat)} {R : Room} {G : xGt} {X : xXt} (B : xB l D e0 own cc nL ret hh R G X) {pc : Nat} {lv : List (Nat × Value)} {st : List Value} {cs : List va_W} {k n : Nat} {a m0 : Nat} {f0 : Nat → Option Nat} {ch : va_W} (d i j : Nat) (hd : d < m0) (hm : m0 < 2 ^ 31) (hi : cs[i]? = some ch) (hj : ch[j]? = some (a, .inl (D.1 13, m0, xqs f0))) (hdg : decode cc pc = .ok (.aaload, 1)) (kk : G (pc + 1) lv (va_rf (f0 d) :: st) cs k n) : G pc lv (.int (nI d) :: .ref a :: st) cs k n := by
  refine x_kald B i j hi hj (vp_in_nI hd hm) hdg ?_
  rw [nI_clamp (Nat.lt_trans hd hm)]
  exact kk
theorem x_oaldN {l : Launch} {D : va_G} {e0 : Nat} {own : String} {cc : ByteArray} {nL : Nat} {ret : Option FieldType} {hh : List (Nat × Nat × Nat × Nat)} {R : Room} {G : xGt} {X : xXt} (B : xB l D e0 own cc nL ret hh R G X) {pc : Nat} {lv : List (Nat × Value)} {st : List Value} {cs : List va_W} {k n : Nat} {a m0 : Nat} {f0 : Nat → Option Nat} {ch : va_W} (d i j : Nat) (hd : d < m0) (hm : m0 < 2 ^ 31) (hi : cs[i]? = some ch) (hj : ch[j]? = some (a, .inl (D.1 14, m0, xqs f0))) (hdg : decode cc pc = .ok (.aaload, 1)) (kk : G (pc + 1) lv (va_rf (f0 d) :: st) cs k n) : G pc lv (.int (nI d) :: .ref a :: st) cs k n := by
  refine x_oald B i j hi hj (vp_in_nI hd hm) hdg ?_
  rw [nI_clamp (Nat.lt_trans hd hm)]
  exact kk
theorem x_iastN {l : Launch} {D : va_G} {e0 : Nat} {own : String} {cc : ByteArray} {nL : Nat} {ret : Option FieldType} {hh : List (Nat × Nat × Nat × Nat)} {R : Room} {G : xGt} {X : xXt} (B : xB l D e0 own cc nL ret hh R G X) {pc : Nat} {lv : List (Nat × Value)} {st : List Value} {cs : List va_W} {k n : Nat} {a m0 : Nat} {f0 : Nat → Int32} {x : Int32} {ch ch1 : va_W} (d i j : Nat) (cs1 : List va_W) (hd : d < m0) (hm : m0 < 2 ^ 31) (hi : cs[i]? = some ch) (hj : ch[j]? = some (a, .inl (D.1 10, m0, .inl f0))) (hs : ch.set j (a, .inl (D.1 10, m0, .inl (upd f0 d x))) = ch1) (hcs : cs.set i ch1 = cs1) (hdg : decode cc pc = .ok (.iastore, 1)) (kk : G (pc + 1) lv st cs1 k n) : G pc lv (.int x :: .int (nI d) :: .ref a :: st) cs k n := by
  refine x_iast B i j cs1 hi hj (vp_in_nI hd hm) ?_ hcs hdg kk
  rw [nI_clamp (Nat.lt_trans hd hm)]
  exact hs
theorem x_zastN {l : Launch} {D : va_G} {e0 : Nat} {own : String} {cc : ByteArray} {nL : Nat} {ret : Option FieldType} {hh : List (Nat × Nat × Nat × Nat)} {R : Room} {G : xGt} {X : xXt} (B : xB l D e0 own cc nL ret hh R G X) {pc : Nat} {lv : List (Nat × Value)} {st : List Value} {cs : List va_W} {k n : Nat} {a m0 : Nat} {f0 : Nat → Int32} {x : Int32} {ch ch1 : va_W} (d i j : Nat) (cs1 : List va_W) (hd : d < m0) (hm : m0 < 2 ^ 31) (hi : cs[i]? = some ch) (hj : ch[j]? = some (a, .inl (D.1 11, m0, .inl f0))) (hs : ch.set j (a, .inl (D.1 11, m0, .inl (upd f0 d (vp_nar .boolean x)))) = ch1) (hcs : cs.set i ch1 = cs1) (hdg : decode cc pc = .ok (.bastore, 1)) (kk : G (pc + 1) lv st cs1 k n) : G pc lv (.int x :: .int (nI d) :: .ref a :: st) cs k n := by
  refine x_zast B i j cs1 hi hj (vp_in_nI hd hm) ?_ hcs hdg kk
  rw [nI_clamp (Nat.lt_trans hd hm)]
  exact hs
theorem x_lastN {l : Launch} {D : va_G} {e0 : Nat} {own : String} {cc : ByteArray} {nL : Nat} {ret : Option FieldType} {hh : List (Nat × Nat × Nat × Nat)} {R : Room} {G : xGt} {X : xXt} (B : xB l D e0 own cc nL ret hh R G X) {pc : Nat} {lv : List (Nat × Value)} {st : List Value} {cs : List va_W} {k n : Nat} {a m0 : Nat} {f0 : Nat → Int64} {x : Int64} {ch ch1 : va_W} (d i j : Nat) (cs1 : List va_W) (hd : d < m0) (hm : m0 < 2 ^ 31) (hi : cs[i]? = some ch) (hj : ch[j]? = some (a, .inl (D.1 12, m0, .inr (.inl f0)))) (hs : ch.set j (a, .inl (D.1 12, m0, .inr (.inl (vp_updL f0 d x)))) = ch1) (hcs : cs.set i ch1 = cs1) (hdg : decode cc pc = .ok (.lastore, 1)) (kk : G (pc + 1) lv st cs1 k n) : G pc lv (.long x :: .int (nI d) :: .ref a :: st) cs k n := by
  refine x_last B i j cs1 hi hj (vp_in_nI hd hm) ?_ hcs hdg kk
  rw [nI_clamp (Nat.lt_trans hd hm)]
  exact hs
theorem x_kastN {l : Launch} {D : va_G} {e0 : Nat} {own : String} {cc : ByteArray} {nL : Nat} {ret : Option FieldType} {hh : List (Nat × Nat × Nat × Nat)} {R : Room} {G : xGt} {X : xXt} (B : xB l D e0 own cc nL ret hh R G X) {pc : Nat} {lv : List (Nat × Value)} {st : List Value} {cs : List va_W} {k n : Nat} {a m0 : Nat} {f0 : Nat → Option Nat} {b : Nat} {vs : List Value} {ch2 : va_W} {ch ch1 : va_W} (d i j : Nat) (i2 j2 : Nat) (cs1 : List va_W) (hd : d < m0) (hm : m0 < 2 ^ 31) (hi : cs[i]? = some ch) (hj : ch[j]? = some (a, .inl (D.1 13, m0, xqs f0))) (hi2 : cs[i2]? = some ch2) (hj2 : ch2[j2]? = some (b, .inr (2, vs))) (hs : ch.set j (a, .inl (D.1 13, m0, xqs (va_up f0 d (some b)))) = ch1) (hcs : cs.set i ch1 = cs1) (hdg : decode cc pc = .ok (.aastore, 1)) (kk : G (pc + 1) lv st cs1 k n) : G pc lv (.ref b :: .int (nI d) :: .ref a :: st) cs k n := by
  refine x_kast B i j i2 j2 cs1 hi hj hi2 hj2 (vp_in_nI hd hm) ?_ hcs hdg kk
  rw [nI_clamp (Nat.lt_trans hd hm)]
  exact hs
theorem x_oastN {l : Launch} {D : va_G} {e0 : Nat} {own : String} {cc : ByteArray} {nL : Nat} {ret : Option FieldType} {hh : List (Nat × Nat × Nat × Nat)} {R : Room} {G : xGt} {X : xXt} (B : xB l D e0 own cc nL ret hh R G X) {pc : Nat} {lv : List (Nat × Value)} {st : List Value} {cs : List va_W} {k n : Nat} {a m0 : Nat} {f0 : Nat → Option Nat} {b : Nat} {vs : List Value} {ch2 : va_W} {ch ch1 : va_W} (d i j : Nat) (i2 j2 : Nat) (cs1 : List va_W) (hd : d < m0) (hm : m0 < 2 ^ 31) (hi : cs[i]? = some ch) (hj : ch[j]? = some (a, .inl (D.1 14, m0, xqs f0))) (hi2 : cs[i2]? = some ch2) (hj2 : ch2[j2]? = some (b, .inr (1, vs))) (hs : ch.set j (a, .inl (D.1 14, m0, xqs (va_up f0 d (some b)))) = ch1) (hcs : cs.set i ch1 = cs1) (hdg : decode cc pc = .ok (.aastore, 1)) (kk : G (pc + 1) lv st cs1 k n) : G pc lv (.ref b :: .int (nI d) :: .ref a :: st) cs k n := by
  refine x_oast B i j i2 j2 cs1 hi hj hi2 hj2 (vp_in_nI hd hm) ?_ hcs hdg kk
  rw [nI_clamp (Nat.lt_trans hd hm)]
  exact hs
theorem x_oastnullN {l : Launch} {D : va_G} {e0 : Nat} {own : String} {cc : ByteArray} {nL : Nat} {ret : Option FieldType} {hh : List (Nat × Nat × Nat × Nat)} {R : Room} {G : xGt} {X : xXt} (B : xB l D e0 own cc nL ret hh R G X) {pc : Nat} {lv : List (Nat × Value)} {st : List Value} {cs : List va_W} {k n : Nat} {a m0 : Nat} {f0 : Nat → Option Nat}  {ch ch1 : va_W} (d i j : Nat) (cs1 : List va_W) (hd : d < m0) (hm : m0 < 2 ^ 31) (hi : cs[i]? = some ch) (hj : ch[j]? = some (a, .inl (D.1 14, m0, xqs f0))) (hs : ch.set j (a, .inl (D.1 14, m0, xqs (va_up f0 d none))) = ch1) (hcs : cs.set i ch1 = cs1) (hdg : decode cc pc = .ok (.aastore, 1)) (kk : G (pc + 1) lv st cs1 k n) : G pc lv (.null :: .int (nI d) :: .ref a :: st) cs k n := by
  refine x_oastnull B i j cs1 hi hj (vp_in_nI hd hm) ?_ hcs hdg kk
  rw [nI_clamp (Nat.lt_trans hd hm)]
  exact hs
theorem x_putF {l : Launch} {D : va_G} {e0 : Nat} {own : String} {cc : ByteArray} {nL : Nat} {ret : Option FieldType} {hh : List (Nat × Nat × Nat × Nat)} {R : Room} {G : xGt} {X : xXt} {nm : String} {cs0 : List va_W} {post : Option Value → List va_W → Prop} {xp : String → Prop} (F : xF l D e0 own cc nL ret hh R nm cs0 post xp G X) {pc : Nat} {lv : List (Nat × Value)} {st : List Value} {cs : List va_W} {k n : Nat} {ci : Nat} {C : String} {T : u_T} {N : Nat} {ty : Nat → FieldType} {a index : Nat} {ref : String} {fs : List Value} {v : Value} {t0 : FieldType} {ch ch1 : va_W} (hc : xCl ci C T N ty) (i j f : Nat) (cs1 : List va_W) (hi : cs[i]? = some ch) (hj : ch[j]? = some (a, .inr (ci, fs))) (hf : f < N) (hw : Cond.fieldLink own index ref (T f).2.1 (T f).2.2.1 ∈ lw_tbl) (hr : (T f).1 = ref) (hfin : (T f).2.2.2 = true) (hin : nm = "<init>") (hdecl : (T f).1 = own) (ht : ty f = t0) (hna : narrow t0 v = v) (hfi : fits t0 v = true) (hl : f < fs.length) (hs : ch.set j (a, .inr (ci, fs.set f v)) = ch1) (hcs : cs.set i ch1 = cs1) (hdg : decode cc pc = .ok (.putfield index, 3)) (kk : G (pc + 3) lv st cs1 k n) : G pc lv (v :: .ref a :: st) cs k n := by
  obtain ⟨p, e, s, m, args, below, meth, c, A, Q, rfl, rfl, hx, hb, hml, hown, ⟨hts, hret, htab, hZ, hA, hlk, htr⟩, hnm, rfl⟩ := F
  subst hr
  subst ht
  subst hs
  subst hcs
  intro H locs ls hP hD hS hL
  obtain ⟨q0, hq, hset⟩ := xfl_at hi hj
  refine va_putF hx hb hts hc.2.1 ty hc.2.2.1 hc.2.2.2 hown hZ.1 hP hD hS q0 hq hc.1 f hf (hts _ (xT_mem hw rfl)) (fun _ h => h) hfin (hnm.trans hin) hdecl (hc.2.2.1 f hf) hna hfi hl hdg (fun H1 locs1 hP1 hD1 hS1 => ?_)
  rw [hset] at hP1 hD1
  exact kk H1 locs1 ls hP1 hD1 hS1 hL
theorem x_tableIn {l : Launch} {D : va_G} {e0 : Nat} {own : String} {cc : ByteArray} {nL : Nat} {ret : Option FieldType} {hh : List (Nat × Nat × Nat × Nat)} {R : Room} {G : xGt} {X : xXt} (B : xB l D e0 own cc nL ret hh R G X) {pc : Nat} {lv : List (Nat × Value)} {st : List Value} {cs : List va_W} {k n : Nat} {dflt lo hi : Int} {offs : Array Int} {len : Nat} {x : Int32} {off : Int} (tgt : Nat) (hdg : decode cc pc = .ok (.tableswitch dflt lo hi offs, len)) (h1 : ¬ x.toInt < lo) (h2 : ¬ hi < x.toInt) (ho : offs[(x.toInt - lo).toNat]? = some off) (ht : (pc : Int) + off = (tgt : Int)) (kk : G tgt lv st cs k n) : G pc lv (.int x :: st) cs k n := by
  obtain ⟨p, e, s, m, args, below, meth, c, A, Q, rfl, rfl, hx, hb, hml, hown, hts, hret, htab, hZ, hA, hlk, htr⟩ := B
  intro H locs ls hP hD hS hL
  exact lv_tableIn hx hb hdg h1 h2 ho ht (kk H locs ls hP hD hS hL)
theorem x_tableOut {l : Launch} {D : va_G} {e0 : Nat} {own : String} {cc : ByteArray} {nL : Nat} {ret : Option FieldType} {hh : List (Nat × Nat × Nat × Nat)} {R : Room} {G : xGt} {X : xXt} (B : xB l D e0 own cc nL ret hh R G X) {pc : Nat} {lv : List (Nat × Value)} {st : List Value} {cs : List va_W} {k n : Nat} {dflt lo hi : Int} {offs : Array Int} {len : Nat} {x : Int32} (tgt : Nat) (hdg : decode cc pc = .ok (.tableswitch dflt lo hi offs, len)) (h : x.toInt < lo ∨ hi < x.toInt) (ht : (pc : Int) + dflt = (tgt : Int)) (kk : G tgt lv st cs k n) : G pc lv (.int x :: st) cs k n := by
  obtain ⟨p, e, s, m, args, below, meth, c, A, Q, rfl, rfl, hx, hb, hml, hown, hts, hret, htab, hZ, hA, hlk, htr⟩ := B
  intro H locs ls hP hD hS hL
  exact lv_tableOut hx hb hdg h ht (kk H locs ls hP hD hS hL)
theorem x_mir {l : Launch} {D : va_G} {e0 : Nat} {own : String} {cc : ByteArray} {nL : Nat} {ret : Option FieldType} {hh : List (Nat × Nat × Nat × Nat)} {R : Room} {G : xGt} {X : xXt} (B : xB l D e0 own cc nL ret hh R G X) {pc : Nat} {lv : List (Nat × Value)} {st : List Value} {cs : List va_W} {k n : Nat} (kk : ∀ mi : Nat, (∀ {pc : Nat} {lv : List (Nat × Value)} {st : List Value} {cs : List va_W} {k n : Nat} {index : Nat}, Cond.classLink own index "[Ljava/lang/Object;" ∈ lw_tbl → decode cc pc = .ok (.ldc index, 2) → G (pc + 2) lv (.ref mi :: st) cs k n → G pc lv st cs k n) → (∀ {pc : Nat} {lv : List (Nat × Value)} {st : List Value} {cs : List va_W} {k n : Nat} {index a m0 : Nat} {f0 : Nat → Option Nat} {ch : va_W} (i j : Nat), cs[i]? = some ch → ch[j]? = some (a, .inl (D.1 14, m0, xqs f0)) → Cond.methodLink own index ⟨"java/lang/Object", "getClass", "()Ljava/lang/Class;"⟩ ∈ lw_tbl → Cond.selects "[Ljava/lang/Object;" ⟨"java/lang/Object", "getClass", "()Ljava/lang/Class;"⟩ ⟨"java/lang/Object", "getClass", "()Ljava/lang/Class;"⟩ ∈ lw_tbl → Cond.instanceMethod ⟨"java/lang/Object", "getClass", "()Ljava/lang/Class;"⟩ ∈ lw_tbl → Cond.native ⟨"java/lang/Object", "getClass", "()Ljava/lang/Class;"⟩ ∈ lw_tbl → 1 ≤ R.frames → (st.map fun v => v.category).sum + 14 ≤ R.locals → decode cc pc = .ok (.invokevirtual index, 3) → G (pc + 3) lv (.ref mi :: st) cs k n → G pc lv (.ref a :: st) cs k n) → G pc lv st cs k n) : G pc lv st cs k n := by
  obtain ⟨p, e, s, m, args, below, meth, c, A, Q, rfl, rfl, hx, hb, hml, hown, hts, hret, htab, hZ, hA, hlk, htr⟩ := B
  obtain ⟨mi, hM⟩ := hZ.2.1.2.2.2.2.2.2
  refine kk mi (fun hw hdg k9 => ?_) (fun i j hi hj m1 m2 m3 m4 hf hlo hdg k9 => ?_)
  · intro H locs ls hP hD hS hL
    exact va_ldcM hx hb hown (hts _ (xT_mem hw rfl)) hM hdg (k9 H locs ls hP hD hS hL)
  · intro H locs ls hP hD hS hL
    obtain ⟨q0, hq⟩ := xfl_mem hi hj
    have hK := hZ.1.2 4 (D.1 14, .object "java/lang/Object") rfl
    refine va_getC hx hb (hml.trans hL.1.symm) hown (hts _ (xT_mem m1 rfl)) (va_Nw.use rfl (hZ.2.1.1 ⟨"java/lang/Object", "getClass", "()Ljava/lang/Class;"⟩ (by simp [xND]))) (hts _ (xT_mem m2 rfl)) (hts _ (xT_mem m3 rfl)) (hts _ (xT_mem m4 rfl)) hM ⟨_, hP q0 _ hq, rfl, va_nmO hK.2 rfl⟩ hf hlo hdg (k9 H locs ls hP hD hS hL)
theorem x_copy {l : Launch} {D : va_G} {e0 : Nat} {own : String} {cc : ByteArray} {nL : Nat} {ret : Option FieldType} {hh : List (Nat × Nat × Nat × Nat)} {R : Room} {G : xGt} {X : xXt} (B : xB l D e0 own cc nL ret hh R G X) {pc : Nat} {lv : List (Nat × Value)} {st : List Value} {cs : List va_W} {k n : Nat} {a b m0 m1 index : Nat} {f0 f1 : Nat → Option Nat} {ch ch1 ch2 ch9 : va_W} (i j i1 j1 i9 : Nat) (n9 : Nat) (cs1 : List va_W) (hi : cs[i]? = some ch) (hj : ch[j]? = some (a, .inl (D.1 14, m0, xqs f0))) (hi1 : cs[i1]? = some ch1) (hj1 : ch1[j1]? = some (b, .inl (D.1 14, m1, xqs f1))) (hi9 : cs[i9]? = some ch9) (h0 : n9 ≤ m0) (h1 : n9 ≤ m1) (h31 : n9 < 2 ^ 31) (hel : ∀ i, i < n9 → ∀ y, f0 i = some y → ∃ (j9 : Nat) (vs : List Value), ch9[j9]? = some (y, .inr (1, vs)))
    (hs : ch1.set j1 (b, .inl (D.1 14, m1, xqs (va_cpy f0 f1 0 0 n9))) = ch2) (hcs : cs.set i1 ch2 = cs1) (w1 : Cond.methodLink own index arraycopyName ∈ lw_tbl) (w2 : Cond.native arraycopyName ∈ lw_tbl) (w3 : Cond.static arraycopyName ∈ lw_tbl) (w4 : Cond.initialized "java/lang/System" ∈ lw_tbl) (hf : 1 ≤ R.frames) (hlo : (st.map fun v => v.category).sum + (nativeFrameWords "java/lang/System" "arraycopy" 5 + 11) ≤ R.locals) (hdg : decode cc pc = .ok (.invokestatic index, 3)) (kk : G (pc + 3) lv st cs1 k n) : G pc lv (.int (nI n9) :: .int 0 :: .ref b :: .int 0 :: .ref a :: st) cs k n := by
  subst hs
  subst hcs
  obtain ⟨p, e, s, m, args, below, meth, c, A, Q, rfl, rfl, hx, hb, hml, hown, hts, hret, htab, hZ, hA, hlk, htr⟩ := B
  intro H locs ls hP hD hS hL
  obtain ⟨q0, hq⟩ := xfl_mem hi hj
  obtain ⟨q1, hq1, hset⟩ := xfl_at hi1 hj1
  have e9 : (nI n9).toNatClampNeg = n9 := nI_clamp h31
  have e0 : (0 : Int32).toNatClampNeg = 0 := sb_cl0
  refine va_copyM hx hb (hml.trans hL.1.symm) hown (hts _ (xT_mem w1 rfl)) (hts _ (xT_mem w2 rfl)) (hts _ (xT_mem w3 rfl)) (hts _ (xT_mem w4 rfl)) hZ.1 hP hD hS q0 q1 4 4 hq hq1 rfl rfl (by decide) (by decide) (nI_pos h31) (by rw [e9, e0]; omega) (by rw [e9, e0]; omega) (fun i hin y hy => ?_) hf hlo hdg (fun H1 locs1 hP1 hD1 hS1 => ?_)
  · rw [e9] at hin
    rw [e0, Nat.zero_add] at hy
    obtain ⟨j9, vs, h9⟩ := hel i hin y hy
    obtain ⟨q9, hq9⟩ := xfl_mem hi9 h9
    refine va_rAny (r := (RX0, TX0, 12)) hZ.1 hP hq9 rfl (fun comp c0 hc1 hc2 => ?_)
    obtain ⟨c3, c4, hc3, hc4, hasg⟩ := Cond.castable_spec (va_Nw.use (A := #[]) rfl (hZ.2.1.2.1 ("CreditLinks$Delivery", "java/lang/Object") (by simp [xNC])))
    cases Option.some.inj (hc3.symm.trans hc2)
    cases Option.some.inj (hc4.symm.trans hc1)
    exact hasg
  · rw [e9, e0] at hP1 hD1
    rw [hset] at hP1 hD1
    exact kk H1 locs1 ls hP1 hD1 hS1 hL
end
section
/-! rows of the tables, by their places -/
theorem tm0 : Cond.initialized "CreditLinksLaw" ∈ lw_tbl := List.mem_append_right _ (List.mem_of_getElem? (i := 0) (by decide +kernel))
theorem tm1 : Cond.initialized "CreditLinks" ∈ lw_tbl := List.mem_append_right _ (List.mem_of_getElem? (i := 1) (by decide +kernel))
theorem tm2 : Cond.initialized "java/util/AbstractCollection" ∈ lw_tbl := List.mem_append_right _ (List.mem_of_getElem? (i := 2) (by decide +kernel))
theorem tm3 : Cond.initialized "java/util/AbstractList" ∈ lw_tbl := List.mem_append_right _ (List.mem_of_getElem? (i := 3) (by decide +kernel))
theorem tm4 : Cond.initialized "java/util/ArrayList" ∈ lw_tbl := List.mem_append_right _ (List.mem_of_getElem? (i := 4) (by decide +kernel))
theorem tm5 : Cond.initialized "CreditLinks$Row" ∈ lw_tbl := List.mem_append_right _ (List.mem_of_getElem? (i := 5) (by decide +kernel))
theorem tm6 : Cond.initialized "CreditLinks$Link" ∈ lw_tbl := List.mem_append_right _ (List.mem_of_getElem? (i := 6) (by decide +kernel))
theorem tm7 : Cond.initialized "CreditLinksModel" ∈ lw_tbl := List.mem_append_right _ (List.mem_of_getElem? (i := 7) (by decide +kernel))
theorem tm8 : Cond.initialized "java/lang/Throwable" ∈ lw_tbl := List.mem_append_right _ (List.mem_of_getElem? (i := 8) (by decide +kernel))
theorem tm9 : Cond.initialized "java/lang/Exception" ∈ lw_tbl := List.mem_append_right _ (List.mem_of_getElem? (i := 9) (by decide +kernel))
theorem tm10 : Cond.initialized "java/lang/RuntimeException" ∈ lw_tbl := List.mem_append_right _ (List.mem_of_getElem? (i := 10) (by decide +kernel))
theorem tm11 : Cond.initialized "java/lang/IndexOutOfBoundsException" ∈ lw_tbl := List.mem_append_right _ (List.mem_of_getElem? (i := 11) (by decide +kernel))
theorem tm12 : Cond.initialized "java/lang/IllegalArgumentException" ∈ lw_tbl := List.mem_append_right _ (List.mem_of_getElem? (i := 12) (by decide +kernel))
theorem tm13 : Cond.initialized "java/lang/IllegalStateException" ∈ lw_tbl := List.mem_append_right _ (List.mem_of_getElem? (i := 13) (by decide +kernel))
theorem tm14 : Cond.initialized "java/lang/Math" ∈ lw_tbl := List.mem_append_right _ (List.mem_of_getElem? (i := 14) (by decide +kernel))
theorem tm15 : Cond.initialized "CreditLinks$Delivery" ∈ lw_tbl := List.mem_append_right _ (List.mem_of_getElem? (i := 15) (by decide +kernel))
theorem tm16 : Cond.initialized "jdk/internal/util/ArraysSupport" ∈ lw_tbl := List.mem_append_right _ (List.mem_of_getElem? (i := 16) (by decide +kernel))
theorem tm17 : Cond.initialized "java/util/Arrays" ∈ lw_tbl := List.mem_append_right _ (List.mem_of_getElem? (i := 17) (by decide +kernel))
theorem tm18 : Cond.initialized "java/lang/System" ∈ lw_tbl := List.mem_append_right _ (List.mem_of_getElem? (i := 18) (by decide +kernel))
theorem tm19 : Cond.initialized "java/util/Objects" ∈ lw_tbl := List.mem_append_right _ (List.mem_of_getElem? (i := 19) (by decide +kernel))
theorem tm20 : Cond.initialized "jdk/internal/util/Preconditions" ∈ lw_tbl := List.mem_append_right _ (List.mem_of_getElem? (i := 20) (by decide +kernel))
theorem tm21 : Cond.classLink "CreditLinksLaw" 8 "CreditLinks" ∈ lw_tbl := List.mem_append_right _ (List.mem_of_getElem? (i := 21) (by decide +kernel))
theorem tm22 : Cond.instantiable "CreditLinks" 8 ∈ lw_tbl := List.mem_append_right _ (List.mem_of_getElem? (i := 22) (by decide +kernel))
theorem tm23 : Cond.methodLink "CreditLinksLaw" 67 ⟨"CreditLinks", "<init>", "()V"⟩ ∈ lw_tbl := List.mem_append_right _ (List.mem_of_getElem? (i := 23) (by decide +kernel))
theorem tm24 : Cond.instanceMethod ⟨"CreditLinks", "<init>", "()V"⟩ ∈ lw_tbl := List.mem_append_right _ (List.mem_of_getElem? (i := 24) (by decide +kernel))
theorem tm25 : Cond.code ⟨"CreditLinks", "<init>", "()V"⟩ prog_1_method_1_code 2 none ∈ lw_tbl := List.mem_append_right _ (List.mem_of_getElem? (i := 25) (by decide +kernel))
theorem tm26 : Cond.methodLink "CreditLinks" 1 ⟨"java/lang/Object", "<init>", "()V"⟩ ∈ lw_tbl := List.mem_append_right _ (List.mem_of_getElem? (i := 26) (by decide +kernel))
theorem tm27 : Cond.instanceMethod ⟨"java/lang/Object", "<init>", "()V"⟩ ∈ lw_tbl := List.mem_append_right _ (List.mem_of_getElem? (i := 27) (by decide +kernel))
theorem tm28 : Cond.code ⟨"java/lang/Object", "<init>", "()V"⟩ object_method_1_code 1 none ∈ lw_tbl := List.mem_append_right _ (List.mem_of_getElem? (i := 28) (by decide +kernel))
theorem tm29 : Cond.classLink "CreditLinks" 9 "CreditLinks$Link" ∈ lw_tbl := List.mem_append_right _ (List.mem_of_getElem? (i := 29) (by decide +kernel))
theorem tm31 : Cond.classLink "CreditLinks" 15 "java/util/ArrayList" ∈ lw_tbl := List.mem_append_right _ (List.mem_of_getElem? (i := 31) (by decide +kernel))
theorem tm32 : Cond.instantiable "java/util/ArrayList" 3 ∈ lw_tbl := List.mem_append_right _ (List.mem_of_getElem? (i := 32) (by decide +kernel))
theorem tm33 : Cond.methodLink "CreditLinks" 17 ⟨"java/util/ArrayList", "<init>", "()V"⟩ ∈ lw_tbl := List.mem_append_right _ (List.mem_of_getElem? (i := 33) (by decide +kernel))
theorem tm34 : Cond.instanceMethod ⟨"java/util/ArrayList", "<init>", "()V"⟩ ∈ lw_tbl := List.mem_append_right _ (List.mem_of_getElem? (i := 34) (by decide +kernel))
theorem tm35 : Cond.code ⟨"java/util/ArrayList", "<init>", "()V"⟩ prog_21_method_2_code 1 none ∈ lw_tbl := List.mem_append_right _ (List.mem_of_getElem? (i := 35) (by decide +kernel))
theorem tm36 : Cond.methodLink "java/util/ArrayList" 1 ⟨"java/util/AbstractList", "<init>", "()V"⟩ ∈ lw_tbl := List.mem_append_right _ (List.mem_of_getElem? (i := 36) (by decide +kernel))
theorem tm37 : Cond.instanceMethod ⟨"java/util/AbstractList", "<init>", "()V"⟩ ∈ lw_tbl := List.mem_append_right _ (List.mem_of_getElem? (i := 37) (by decide +kernel))
theorem tm38 : Cond.code ⟨"java/util/AbstractList", "<init>", "()V"⟩ prog_20_method_1_code 1 none ∈ lw_tbl := List.mem_append_right _ (List.mem_of_getElem? (i := 38) (by decide +kernel))
theorem tm39 : Cond.methodLink "java/util/AbstractList" 1 ⟨"java/util/AbstractCollection", "<init>", "()V"⟩ ∈ lw_tbl := List.mem_append_right _ (List.mem_of_getElem? (i := 39) (by decide +kernel))
theorem tm40 : Cond.instanceMethod ⟨"java/util/AbstractCollection", "<init>", "()V"⟩ ∈ lw_tbl := List.mem_append_right _ (List.mem_of_getElem? (i := 40) (by decide +kernel))
theorem tm41 : Cond.code ⟨"java/util/AbstractCollection", "<init>", "()V"⟩ prog_19_method_1_code 1 none ∈ lw_tbl := List.mem_append_right _ (List.mem_of_getElem? (i := 41) (by decide +kernel))
theorem tm42 : Cond.methodLink "java/util/AbstractCollection" 1 ⟨"java/lang/Object", "<init>", "()V"⟩ ∈ lw_tbl := List.mem_append_right _ (List.mem_of_getElem? (i := 42) (by decide +kernel))
theorem tm43 : Cond.fieldLink "java/util/ArrayList" 39 "java/util/ArrayList" "DEFAULTCAPACITY_EMPTY_ELEMENTDATA" "[Ljava/lang/Object;" ∈ lw_tbl := List.mem_append_right _ (List.mem_of_getElem? (i := 43) (by decide +kernel))
theorem tm45 : Cond.fieldLink "java/util/ArrayList" 9 "java/util/ArrayList" "elementData" "[Ljava/lang/Object;" ∈ lw_tbl := List.mem_append_right _ (List.mem_of_getElem? (i := 45) (by decide +kernel))
theorem tm46 : Cond.fieldLink "java/util/ArrayList" 48 "java/util/ArrayList" "size" "I" ∈ lw_tbl := List.mem_append_right _ (List.mem_of_getElem? (i := 46) (by decide +kernel))
theorem tm47 : Cond.fieldLink "java/util/AbstractList" 7 "java/util/AbstractList" "modCount" "I" ∈ lw_tbl := List.mem_append_right _ (List.mem_of_getElem? (i := 47) (by decide +kernel))
theorem tm48 : Cond.fieldLink "java/util/ArrayList" 63 "java/util/ArrayList" "modCount" "I" ∈ lw_tbl := List.mem_append_right _ (List.mem_of_getElem? (i := 48) (by decide +kernel))
theorem tm49 : Cond.sameField "java/util/ArrayList" "java/util/AbstractList" "modCount" "I" ∈ lw_tbl := List.mem_append_right _ (List.mem_of_getElem? (i := 49) (by decide +kernel))
theorem tm57 : Cond.classLink "CreditLinks" 22 "CreditLinks$Row" ∈ lw_tbl := List.mem_append_right _ (List.mem_of_getElem? (i := 57) (by decide +kernel))
theorem tm58 : Cond.instantiable "CreditLinks$Row" 5 ∈ lw_tbl := List.mem_append_right _ (List.mem_of_getElem? (i := 58) (by decide +kernel))
theorem tm60 : Cond.instanceMethod ⟨"CreditLinks$Row", "<init>", "()V"⟩ ∈ lw_tbl := List.mem_append_right _ (List.mem_of_getElem? (i := 60) (by decide +kernel))
theorem tm61 : Cond.code ⟨"CreditLinks$Row", "<init>", "()V"⟩ prog_4_method_1_code 1 none ∈ lw_tbl := List.mem_append_right _ (List.mem_of_getElem? (i := 61) (by decide +kernel))
theorem tm62 : Cond.methodLink "CreditLinks$Row" 3 ⟨"java/lang/Object", "<init>", "()V"⟩ ∈ lw_tbl := List.mem_append_right _ (List.mem_of_getElem? (i := 62) (by decide +kernel))
theorem tm63 : Cond.fieldLink "CreditLinks$Row" 9 "CreditLinks$Row" "kinds" "[I" ∈ lw_tbl := List.mem_append_right _ (List.mem_of_getElem? (i := 63) (by decide +kernel))
theorem tm64 : Cond.fieldLink "CreditLinks$Row" 13 "CreditLinks$Row" "subjects" "[I" ∈ lw_tbl := List.mem_append_right _ (List.mem_of_getElem? (i := 64) (by decide +kernel))
theorem tm65 : Cond.fieldLink "CreditLinks$Row" 16 "CreditLinks$Row" "values" "[I" ∈ lw_tbl := List.mem_append_right _ (List.mem_of_getElem? (i := 65) (by decide +kernel))
theorem tm66 : Cond.fieldLink "CreditLinks$Row" 19 "CreditLinks$Row" "first" "I" ∈ lw_tbl := List.mem_append_right _ (List.mem_of_getElem? (i := 66) (by decide +kernel))
theorem tm67 : Cond.fieldLink "CreditLinks$Row" 23 "CreditLinks$Row" "size" "I" ∈ lw_tbl := List.mem_append_right _ (List.mem_of_getElem? (i := 67) (by decide +kernel))
theorem tm79 : Cond.arrayClass .int ∈ lw_tbl := List.mem_append_right _ (List.mem_of_getElem? (i := 79) (by decide +kernel))
theorem tm80 : Cond.instantiable "CreditLinks$Link" 4 ∈ lw_tbl := List.mem_append_right _ (List.mem_of_getElem? (i := 80) (by decide +kernel))
theorem tm82 : Cond.instanceMethod ⟨"CreditLinks$Link", "<init>", "()V"⟩ ∈ lw_tbl := List.mem_append_right _ (List.mem_of_getElem? (i := 82) (by decide +kernel))
theorem tm83 : Cond.code ⟨"CreditLinks$Link", "<init>", "()V"⟩ prog_3_method_1_code 1 none ∈ lw_tbl := List.mem_append_right _ (List.mem_of_getElem? (i := 83) (by decide +kernel))
theorem tm84 : Cond.methodLink "CreditLinks$Link" 3 ⟨"java/lang/Object", "<init>", "()V"⟩ ∈ lw_tbl := List.mem_append_right _ (List.mem_of_getElem? (i := 84) (by decide +kernel))
theorem tm85 : Cond.fieldLink "CreditLinks$Link" 9 "CreditLinks$Link" "mode" "I" ∈ lw_tbl := List.mem_append_right _ (List.mem_of_getElem? (i := 85) (by decide +kernel))
theorem tm86 : Cond.fieldLink "CreditLinks" 58 "CreditLinks$Link" "mode" "I" ∈ lw_tbl := List.mem_append_right _ (List.mem_of_getElem? (i := 86) (by decide +kernel))
theorem tm87 : Cond.fieldLink "CreditLinks$Link" 15 "CreditLinks$Link" "sentCount" "I" ∈ lw_tbl := List.mem_append_right _ (List.mem_of_getElem? (i := 87) (by decide +kernel))
theorem tm88 : Cond.fieldLink "CreditLinks$Link" 18 "CreditLinks$Link" "limit" "I" ∈ lw_tbl := List.mem_append_right _ (List.mem_of_getElem? (i := 88) (by decide +kernel))
theorem tm89 : Cond.fieldLink "CreditLinks" 233 "CreditLinks$Link" "limit" "I" ∈ lw_tbl := List.mem_append_right _ (List.mem_of_getElem? (i := 89) (by decide +kernel))
theorem tm90 : Cond.fieldLink "CreditLinks$Link" 21 "CreditLinks$Link" "comeCount" "I" ∈ lw_tbl := List.mem_append_right _ (List.mem_of_getElem? (i := 90) (by decide +kernel))
theorem tm91 : Cond.fieldLink "CreditLinks" 66 "CreditLinks$Link" "comeCount" "I" ∈ lw_tbl := List.mem_append_right _ (List.mem_of_getElem? (i := 91) (by decide +kernel))
theorem tm101 : Cond.fieldLink "CreditLinks" 11 "CreditLinks" "links" "[LCreditLinks$Link;" ∈ lw_tbl := List.mem_append_right _ (List.mem_of_getElem? (i := 101) (by decide +kernel))
theorem tm102 : Cond.fieldLink "CreditLinks" 18 "CreditLinks" "sent" "Ljava/util/ArrayList;" ∈ lw_tbl := List.mem_append_right _ (List.mem_of_getElem? (i := 102) (by decide +kernel))
theorem tm103 : Cond.fieldLink "CreditLinks" 25 "CreditLinks" "forward" "LCreditLinks$Row;" ∈ lw_tbl := List.mem_append_right _ (List.mem_of_getElem? (i := 103) (by decide +kernel))
theorem tm104 : Cond.fieldLink "CreditLinks" 29 "CreditLinks" "backward" "LCreditLinks$Row;" ∈ lw_tbl := List.mem_append_right _ (List.mem_of_getElem? (i := 104) (by decide +kernel))
theorem tm105 : Cond.fieldLink "CreditLinks" 32 "CreditLinks" "told" "Ljava/util/ArrayList;" ∈ lw_tbl := List.mem_append_right _ (List.mem_of_getElem? (i := 105) (by decide +kernel))
theorem tm106 : Cond.fieldLink "CreditLinks" 35 "CreditLinks" "connected" "Z" ∈ lw_tbl := List.mem_append_right _ (List.mem_of_getElem? (i := 106) (by decide +kernel))
theorem tm107 : Cond.fieldLink "CreditLinks" 39 "CreditLinks" "inTransaction" "Z" ∈ lw_tbl := List.mem_append_right _ (List.mem_of_getElem? (i := 107) (by decide +kernel))
theorem tm108 : Cond.fieldLink "CreditLinks" 42 "CreditLinks" "transactions" "I" ∈ lw_tbl := List.mem_append_right _ (List.mem_of_getElem? (i := 108) (by decide +kernel))
theorem tm126 : Cond.methodLink "CreditLinksLaw" 99 ⟨"CreditLinks", "deliveries", "()I"⟩ ∈ lw_tbl := List.mem_append_right _ (List.mem_of_getElem? (i := 126) (by decide +kernel))
theorem tm127 : Cond.instanceMethod ⟨"CreditLinks", "deliveries", "()I"⟩ ∈ lw_tbl := List.mem_append_right _ (List.mem_of_getElem? (i := 127) (by decide +kernel))
theorem tm128 : Cond.selects "CreditLinks" ⟨"CreditLinks", "deliveries", "()I"⟩ ⟨"CreditLinks", "deliveries", "()I"⟩ ∈ lw_tbl := List.mem_append_right _ (List.mem_of_getElem? (i := 128) (by decide +kernel))
theorem tm129 : Cond.code ⟨"CreditLinks", "deliveries", "()I"⟩ prog_1_method_9_code 1 (Option.some .int) ∈ lw_tbl := List.mem_append_right _ (List.mem_of_getElem? (i := 129) (by decide +kernel))
theorem tm130 : Cond.methodLink "CreditLinks" 83 ⟨"java/util/ArrayList", "size", "()I"⟩ ∈ lw_tbl := List.mem_append_right _ (List.mem_of_getElem? (i := 130) (by decide +kernel))
theorem tm131 : Cond.instanceMethod ⟨"java/util/ArrayList", "size", "()I"⟩ ∈ lw_tbl := List.mem_append_right _ (List.mem_of_getElem? (i := 131) (by decide +kernel))
theorem tm132 : Cond.selects "java/util/ArrayList" ⟨"java/util/ArrayList", "size", "()I"⟩ ⟨"java/util/ArrayList", "size", "()I"⟩ ∈ lw_tbl := List.mem_append_right _ (List.mem_of_getElem? (i := 132) (by decide +kernel))
theorem tm133 : Cond.code ⟨"java/util/ArrayList", "size", "()I"⟩ prog_21_method_8_code 1 (Option.some .int) ∈ lw_tbl := List.mem_append_right _ (List.mem_of_getElem? (i := 133) (by decide +kernel))
theorem tm134 : Cond.methodLink "CreditLinksLaw" 103 ⟨"CreditLinks", "underWay", "()I"⟩ ∈ lw_tbl := List.mem_append_right _ (List.mem_of_getElem? (i := 134) (by decide +kernel))
theorem tm135 : Cond.instanceMethod ⟨"CreditLinks", "underWay", "()I"⟩ ∈ lw_tbl := List.mem_append_right _ (List.mem_of_getElem? (i := 135) (by decide +kernel))
theorem tm136 : Cond.selects "CreditLinks" ⟨"CreditLinks", "underWay", "()I"⟩ ⟨"CreditLinks", "underWay", "()I"⟩ ∈ lw_tbl := List.mem_append_right _ (List.mem_of_getElem? (i := 136) (by decide +kernel))
theorem tm137 : Cond.code ⟨"CreditLinks", "underWay", "()I"⟩ prog_1_method_10_code 1 (Option.some .int) ∈ lw_tbl := List.mem_append_right _ (List.mem_of_getElem? (i := 137) (by decide +kernel))
theorem tm138 : Cond.methodLink "CreditLinks" 115 ⟨"CreditLinks$Row", "length", "()I"⟩ ∈ lw_tbl := List.mem_append_right _ (List.mem_of_getElem? (i := 138) (by decide +kernel))
theorem tm139 : Cond.instanceMethod ⟨"CreditLinks$Row", "length", "()I"⟩ ∈ lw_tbl := List.mem_append_right _ (List.mem_of_getElem? (i := 139) (by decide +kernel))
theorem tm140 : Cond.selects "CreditLinks$Row" ⟨"CreditLinks$Row", "length", "()I"⟩ ⟨"CreditLinks$Row", "length", "()I"⟩ ∈ lw_tbl := List.mem_append_right _ (List.mem_of_getElem? (i := 140) (by decide +kernel))
theorem tm141 : Cond.code ⟨"CreditLinks$Row", "length", "()I"⟩ prog_4_method_2_code 1 (Option.some .int) ∈ lw_tbl := List.mem_append_right _ (List.mem_of_getElem? (i := 141) (by decide +kernel))
theorem tm142 : Cond.methodLink "CreditLinksLaw" 107 ⟨"CreditLinks", "backUnderWay", "()I"⟩ ∈ lw_tbl := List.mem_append_right _ (List.mem_of_getElem? (i := 142) (by decide +kernel))
theorem tm143 : Cond.instanceMethod ⟨"CreditLinks", "backUnderWay", "()I"⟩ ∈ lw_tbl := List.mem_append_right _ (List.mem_of_getElem? (i := 143) (by decide +kernel))
theorem tm144 : Cond.selects "CreditLinks" ⟨"CreditLinks", "backUnderWay", "()I"⟩ ⟨"CreditLinks", "backUnderWay", "()I"⟩ ∈ lw_tbl := List.mem_append_right _ (List.mem_of_getElem? (i := 144) (by decide +kernel))
theorem tm145 : Cond.code ⟨"CreditLinks", "backUnderWay", "()I"⟩ prog_1_method_11_code 1 (Option.some .int) ∈ lw_tbl := List.mem_append_right _ (List.mem_of_getElem? (i := 145) (by decide +kernel))
theorem tm146 : Cond.methodLink "CreditLinksLaw" 130 ⟨"CreditLinks", "wouldResend", "()I"⟩ ∈ lw_tbl := List.mem_append_right _ (List.mem_of_getElem? (i := 146) (by decide +kernel))
theorem tm147 : Cond.instanceMethod ⟨"CreditLinks", "wouldResend", "()I"⟩ ∈ lw_tbl := List.mem_append_right _ (List.mem_of_getElem? (i := 147) (by decide +kernel))
theorem tm148 : Cond.selects "CreditLinks" ⟨"CreditLinks", "wouldResend", "()I"⟩ ⟨"CreditLinks", "wouldResend", "()I"⟩ ∈ lw_tbl := List.mem_append_right _ (List.mem_of_getElem? (i := 148) (by decide +kernel))
theorem tm149 : Cond.code ⟨"CreditLinks", "wouldResend", "()I"⟩ prog_1_method_18_code 3 (Option.some .int) ∈ lw_tbl := List.mem_append_right _ (List.mem_of_getElem? (i := 149) (by decide +kernel))
theorem tm150 : Cond.methodLink "CreditLinks" 162 ⟨"java/util/ArrayList", "get", "(I)Ljava/lang/Object;"⟩ ∈ lw_tbl := List.mem_append_right _ (List.mem_of_getElem? (i := 150) (by decide +kernel))
theorem tm151 : Cond.instanceMethod ⟨"java/util/ArrayList", "get", "(I)Ljava/lang/Object;"⟩ ∈ lw_tbl := List.mem_append_right _ (List.mem_of_getElem? (i := 151) (by decide +kernel))
theorem tm152 : Cond.selects "java/util/ArrayList" ⟨"java/util/ArrayList", "get", "(I)Ljava/lang/Object;"⟩ ⟨"java/util/ArrayList", "get", "(I)Ljava/lang/Object;"⟩ ∈ lw_tbl := List.mem_append_right _ (List.mem_of_getElem? (i := 152) (by decide +kernel))
theorem tm153 : Cond.code ⟨"java/util/ArrayList", "get", "(I)Ljava/lang/Object;"⟩ prog_21_method_20_code 2 (Option.some (.object "java/lang/Object")) ∈ lw_tbl := List.mem_append_right _ (List.mem_of_getElem? (i := 153) (by decide +kernel))
theorem tm154 : Cond.methodLink "java/util/ArrayList" 118 ⟨"java/util/Objects", "checkIndex", "(II)I"⟩ ∈ lw_tbl := List.mem_append_right _ (List.mem_of_getElem? (i := 154) (by decide +kernel))
theorem tm155 : Cond.static ⟨"java/util/Objects", "checkIndex", "(II)I"⟩ ∈ lw_tbl := List.mem_append_right _ (List.mem_of_getElem? (i := 155) (by decide +kernel))
theorem tm156 : Cond.code ⟨"java/util/Objects", "checkIndex", "(II)I"⟩ prog_25_method_17_code 2 (Option.some .int) ∈ lw_tbl := List.mem_append_right _ (List.mem_of_getElem? (i := 156) (by decide +kernel))
theorem tm157 : Cond.methodLink "java/util/Objects" 105 ⟨"jdk/internal/util/Preconditions", "checkIndex", "(IILjava/util/function/BiFunction;)I"⟩ ∈ lw_tbl := List.mem_append_right _ (List.mem_of_getElem? (i := 157) (by decide +kernel))
theorem tm158 : Cond.static ⟨"jdk/internal/util/Preconditions", "checkIndex", "(IILjava/util/function/BiFunction;)I"⟩ ∈ lw_tbl := List.mem_append_right _ (List.mem_of_getElem? (i := 158) (by decide +kernel))
theorem tm159 : Cond.code ⟨"jdk/internal/util/Preconditions", "checkIndex", "(IILjava/util/function/BiFunction;)I"⟩ prog_29_method_11_code 3 (Option.some .int) ∈ lw_tbl := List.mem_append_right _ (List.mem_of_getElem? (i := 159) (by decide +kernel))
theorem tm160 : Cond.methodLink "java/util/ArrayList" 123 ⟨"java/util/ArrayList", "elementData", "(I)Ljava/lang/Object;"⟩ ∈ lw_tbl := List.mem_append_right _ (List.mem_of_getElem? (i := 160) (by decide +kernel))
theorem tm161 : Cond.instanceMethod ⟨"java/util/ArrayList", "elementData", "(I)Ljava/lang/Object;"⟩ ∈ lw_tbl := List.mem_append_right _ (List.mem_of_getElem? (i := 161) (by decide +kernel))
theorem tm162 : Cond.selects "java/util/ArrayList" ⟨"java/util/ArrayList", "elementData", "(I)Ljava/lang/Object;"⟩ ⟨"java/util/ArrayList", "elementData", "(I)Ljava/lang/Object;"⟩ ∈ lw_tbl := List.mem_append_right _ (List.mem_of_getElem? (i := 162) (by decide +kernel))
theorem tm163 : Cond.code ⟨"java/util/ArrayList", "elementData", "(I)Ljava/lang/Object;"⟩ prog_21_method_18_code 2 (Option.some (.object "java/lang/Object")) ∈ lw_tbl := List.mem_append_right _ (List.mem_of_getElem? (i := 163) (by decide +kernel))
theorem tm164 : Cond.classLink "CreditLinks" 93 "CreditLinks$Delivery" ∈ lw_tbl := List.mem_append_right _ (List.mem_of_getElem? (i := 164) (by decide +kernel))
theorem tm165 : Cond.methodLink "CreditLinks" 169 ⟨"CreditLinks$Delivery", "goesAnew", "()Z"⟩ ∈ lw_tbl := List.mem_append_right _ (List.mem_of_getElem? (i := 165) (by decide +kernel))
theorem tm166 : Cond.instanceMethod ⟨"CreditLinks$Delivery", "goesAnew", "()Z"⟩ ∈ lw_tbl := List.mem_append_right _ (List.mem_of_getElem? (i := 166) (by decide +kernel))
theorem tm167 : Cond.selects "CreditLinks$Delivery" ⟨"CreditLinks$Delivery", "goesAnew", "()Z"⟩ ⟨"CreditLinks$Delivery", "goesAnew", "()Z"⟩ ∈ lw_tbl := List.mem_append_right _ (List.mem_of_getElem? (i := 167) (by decide +kernel))
theorem tm168 : Cond.code ⟨"CreditLinks$Delivery", "goesAnew", "()Z"⟩ prog_2_method_7_code 2 (Option.some .boolean) ∈ lw_tbl := List.mem_append_right _ (List.mem_of_getElem? (i := 168) (by decide +kernel))
theorem tm169 : Cond.methodLink "CreditLinksLaw" 134 ⟨"CreditLinks", "isUp", "()Z"⟩ ∈ lw_tbl := List.mem_append_right _ (List.mem_of_getElem? (i := 169) (by decide +kernel))
theorem tm170 : Cond.instanceMethod ⟨"CreditLinks", "isUp", "()Z"⟩ ∈ lw_tbl := List.mem_append_right _ (List.mem_of_getElem? (i := 170) (by decide +kernel))
theorem tm171 : Cond.selects "CreditLinks" ⟨"CreditLinks", "isUp", "()Z"⟩ ⟨"CreditLinks", "isUp", "()Z"⟩ ∈ lw_tbl := List.mem_append_right _ (List.mem_of_getElem? (i := 171) (by decide +kernel))
theorem tm172 : Cond.code ⟨"CreditLinks", "isUp", "()Z"⟩ prog_1_method_19_code 1 (Option.some .boolean) ∈ lw_tbl := List.mem_append_right _ (List.mem_of_getElem? (i := 172) (by decide +kernel))
theorem tm173 : Cond.methodLink "CreditLinksLaw" 71 ⟨"CreditLinksLaw", "setMode", "(LCreditLinks;II[J)I"⟩ ∈ lw_tbl := List.mem_append_right _ (List.mem_of_getElem? (i := 173) (by decide +kernel))
theorem tm174 : Cond.static ⟨"CreditLinksLaw", "setMode", "(LCreditLinks;II[J)I"⟩ ∈ lw_tbl := List.mem_append_right _ (List.mem_of_getElem? (i := 174) (by decide +kernel))
theorem tm175 : Cond.codeWith ⟨"CreditLinksLaw", "setMode", "(LCreditLinks;II[J)I"⟩ method_3_code 5 (Option.some .int) [(0, 10, 13, 13), (0, 10, 17, 15)] ∈ lw_tbl := List.mem_append_right _ (List.mem_of_getElem? (i := 175) (by decide +kernel))
theorem tm176 : Cond.classLink "CreditLinksLaw" 13 "java/lang/IndexOutOfBoundsException" ∈ lw_tbl := List.mem_append_right _ (List.mem_of_getElem? (i := 176) (by decide +kernel))
theorem tm177 : Cond.classLink "CreditLinksLaw" 15 "java/lang/IllegalArgumentException" ∈ lw_tbl := List.mem_append_right _ (List.mem_of_getElem? (i := 177) (by decide +kernel))
theorem tm178 : Cond.methodLink "CreditLinksLaw" 7 ⟨"CreditLinks", "setMode", "(II)I"⟩ ∈ lw_tbl := List.mem_append_right _ (List.mem_of_getElem? (i := 178) (by decide +kernel))
theorem tm179 : Cond.instanceMethod ⟨"CreditLinks", "setMode", "(II)I"⟩ ∈ lw_tbl := List.mem_append_right _ (List.mem_of_getElem? (i := 179) (by decide +kernel))
theorem tm180 : Cond.selects "CreditLinks" ⟨"CreditLinks", "setMode", "(II)I"⟩ ⟨"CreditLinks", "setMode", "(II)I"⟩ ∈ lw_tbl := List.mem_append_right _ (List.mem_of_getElem? (i := 180) (by decide +kernel))
theorem tm181 : Cond.code ⟨"CreditLinks", "setMode", "(II)I"⟩ prog_1_method_2_code 5 (Option.some .int) ∈ lw_tbl := List.mem_append_right _ (List.mem_of_getElem? (i := 181) (by decide +kernel))
theorem tm182 : Cond.methodLink "CreditLinks" 47 ⟨"CreditLinks", "linkAt", "(I)LCreditLinks$Link;"⟩ ∈ lw_tbl := List.mem_append_right _ (List.mem_of_getElem? (i := 182) (by decide +kernel))
theorem tm184 : Cond.instanceMethod ⟨"CreditLinks", "linkAt", "(I)LCreditLinks$Link;"⟩ ∈ lw_tbl := List.mem_append_right _ (List.mem_of_getElem? (i := 184) (by decide +kernel))
theorem tm185 : Cond.code ⟨"CreditLinks", "linkAt", "(I)LCreditLinks$Link;"⟩ prog_1_method_23_code 2 (Option.some (.object "CreditLinks$Link")) ∈ lw_tbl := List.mem_append_right _ (List.mem_of_getElem? (i := 185) (by decide +kernel))
theorem tm186 : Cond.classLink "CreditLinks" 180 "java/lang/IndexOutOfBoundsException" ∈ lw_tbl := List.mem_append_right _ (List.mem_of_getElem? (i := 186) (by decide +kernel))
theorem tm187 : Cond.instantiable "java/lang/IndexOutOfBoundsException" 6 ∈ lw_tbl := List.mem_append_right _ (List.mem_of_getElem? (i := 187) (by decide +kernel))
theorem tm195 : Cond.selects "java/lang/IndexOutOfBoundsException" ⟨"java/lang/Throwable", "fillInStackTrace", "(I)Ljava/lang/Throwable;"⟩ ⟨"java/lang/Throwable", "fillInStackTrace", "(I)Ljava/lang/Throwable;"⟩ ∈ lw_tbl := List.mem_append_right _ (List.mem_of_getElem? (i := 195) (by decide +kernel))
theorem tm196 : Cond.selects "java/lang/IndexOutOfBoundsException" ⟨"java/lang/Throwable", "fillInStackTrace", "()Ljava/lang/Throwable;"⟩ ⟨"java/lang/Throwable", "fillInStackTrace", "()Ljava/lang/Throwable;"⟩ ∈ lw_tbl := List.mem_append_right _ (List.mem_of_getElem? (i := 196) (by decide +kernel))
theorem tm207 : Cond.fieldLink "java/lang/Throwable" 198 "java/lang/Throwable" "backtrace" "Ljava/lang/Object;" ∈ lw_tbl := List.mem_append_right _ (List.mem_of_getElem? (i := 207) (by decide +kernel))
theorem tm209 : Cond.instanceMethod ⟨"java/lang/Throwable", "<init>", "()V"⟩ ∈ lw_tbl := List.mem_append_right _ (List.mem_of_getElem? (i := 209) (by decide +kernel))
theorem tm210 : Cond.code ⟨"java/lang/Throwable", "<init>", "()V"⟩ prog_18_method_1_code 1 none ∈ lw_tbl := List.mem_append_right _ (List.mem_of_getElem? (i := 210) (by decide +kernel))
theorem tm211 : Cond.methodLink "java/lang/Throwable" 1 ⟨"java/lang/Object", "<init>", "()V"⟩ ∈ lw_tbl := List.mem_append_right _ (List.mem_of_getElem? (i := 211) (by decide +kernel))
theorem tm212 : Cond.fieldLink "java/lang/Throwable" 13 "java/lang/Throwable" "UNASSIGNED_STACK" "[Ljava/lang/StackTraceElement;" ∈ lw_tbl := List.mem_append_right _ (List.mem_of_getElem? (i := 212) (by decide +kernel))
theorem tm214 : Cond.fieldLink "java/lang/Throwable" 20 "java/lang/Throwable" "SUPPRESSED_SENTINEL" "Ljava/util/List;" ∈ lw_tbl := List.mem_append_right _ (List.mem_of_getElem? (i := 214) (by decide +kernel))
theorem tm216 : Cond.methodLink "java/lang/Throwable" 27 ⟨"java/lang/Throwable", "fillInStackTrace", "()Ljava/lang/Throwable;"⟩ ∈ lw_tbl := List.mem_append_right _ (List.mem_of_getElem? (i := 216) (by decide +kernel))
theorem tm217 : Cond.instanceMethod ⟨"java/lang/Throwable", "fillInStackTrace", "()Ljava/lang/Throwable;"⟩ ∈ lw_tbl := List.mem_append_right _ (List.mem_of_getElem? (i := 217) (by decide +kernel))
theorem tm218 : Cond.sameMethod "java/lang/Throwable" "java/lang/Throwable" "fillInStackTrace" "()Ljava/lang/Throwable;" ∈ lw_tbl := List.mem_append_right _ (List.mem_of_getElem? (i := 218) (by decide +kernel))
theorem tm219 : Cond.selects "java/lang/IllegalArgumentException" ⟨"java/lang/Throwable", "fillInStackTrace", "()Ljava/lang/Throwable;"⟩ ⟨"java/lang/Throwable", "fillInStackTrace", "()Ljava/lang/Throwable;"⟩ ∈ lw_tbl := List.mem_append_right _ (List.mem_of_getElem? (i := 219) (by decide +kernel))
theorem tm220 : Cond.selects "java/lang/IllegalStateException" ⟨"java/lang/Throwable", "fillInStackTrace", "()Ljava/lang/Throwable;"⟩ ⟨"java/lang/Throwable", "fillInStackTrace", "()Ljava/lang/Throwable;"⟩ ∈ lw_tbl := List.mem_append_right _ (List.mem_of_getElem? (i := 220) (by decide +kernel))
theorem tm222 : Cond.methodLink "java/lang/Throwable" 202 ⟨"java/lang/Throwable", "fillInStackTrace", "(I)Ljava/lang/Throwable;"⟩ ∈ lw_tbl := List.mem_append_right _ (List.mem_of_getElem? (i := 222) (by decide +kernel))
theorem tm224 : Cond.instanceMethod ⟨"java/lang/Throwable", "fillInStackTrace", "(I)Ljava/lang/Throwable;"⟩ ∈ lw_tbl := List.mem_append_right _ (List.mem_of_getElem? (i := 224) (by decide +kernel))
theorem tm225 : Cond.instantiable "java/lang/Throwable" 6 ∈ lw_tbl := List.mem_append_right _ (List.mem_of_getElem? (i := 225) (by decide +kernel))
theorem tm226 : Cond.native ⟨"java/lang/Throwable", "fillInStackTrace", "(I)Ljava/lang/Throwable;"⟩ ∈ lw_tbl := List.mem_append_right _ (List.mem_of_getElem? (i := 226) (by decide +kernel))
theorem tm228 : Cond.methodLink "CreditLinks" 184 ⟨"java/lang/IndexOutOfBoundsException", "<init>", "(Ljava/lang/String;)V"⟩ ∈ lw_tbl := List.mem_append_right _ (List.mem_of_getElem? (i := 228) (by decide +kernel))
theorem tm229 : Cond.instanceMethod ⟨"java/lang/IndexOutOfBoundsException", "<init>", "(Ljava/lang/String;)V"⟩ ∈ lw_tbl := List.mem_append_right _ (List.mem_of_getElem? (i := 229) (by decide +kernel))
theorem tm230 : Cond.code ⟨"java/lang/IndexOutOfBoundsException", "<init>", "(Ljava/lang/String;)V"⟩ prog_12_method_2_code 2 none ∈ lw_tbl := List.mem_append_right _ (List.mem_of_getElem? (i := 230) (by decide +kernel))
theorem tm231 : Cond.methodLink "java/lang/IndexOutOfBoundsException" 7 ⟨"java/lang/RuntimeException", "<init>", "(Ljava/lang/String;)V"⟩ ∈ lw_tbl := List.mem_append_right _ (List.mem_of_getElem? (i := 231) (by decide +kernel))
theorem tm232 : Cond.instanceMethod ⟨"java/lang/RuntimeException", "<init>", "(Ljava/lang/String;)V"⟩ ∈ lw_tbl := List.mem_append_right _ (List.mem_of_getElem? (i := 232) (by decide +kernel))
theorem tm233 : Cond.code ⟨"java/lang/RuntimeException", "<init>", "(Ljava/lang/String;)V"⟩ prog_15_method_2_code 2 none ∈ lw_tbl := List.mem_append_right _ (List.mem_of_getElem? (i := 233) (by decide +kernel))
theorem tm234 : Cond.methodLink "java/lang/RuntimeException" 7 ⟨"java/lang/Exception", "<init>", "(Ljava/lang/String;)V"⟩ ∈ lw_tbl := List.mem_append_right _ (List.mem_of_getElem? (i := 234) (by decide +kernel))
theorem tm235 : Cond.instanceMethod ⟨"java/lang/Exception", "<init>", "(Ljava/lang/String;)V"⟩ ∈ lw_tbl := List.mem_append_right _ (List.mem_of_getElem? (i := 235) (by decide +kernel))
theorem tm236 : Cond.code ⟨"java/lang/Exception", "<init>", "(Ljava/lang/String;)V"⟩ prog_9_method_2_code 2 none ∈ lw_tbl := List.mem_append_right _ (List.mem_of_getElem? (i := 236) (by decide +kernel))
theorem tm237 : Cond.methodLink "java/lang/Exception" 7 ⟨"java/lang/Throwable", "<init>", "(Ljava/lang/String;)V"⟩ ∈ lw_tbl := List.mem_append_right _ (List.mem_of_getElem? (i := 237) (by decide +kernel))
theorem tm238 : Cond.instanceMethod ⟨"java/lang/Throwable", "<init>", "(Ljava/lang/String;)V"⟩ ∈ lw_tbl := List.mem_append_right _ (List.mem_of_getElem? (i := 238) (by decide +kernel))
theorem tm239 : Cond.code ⟨"java/lang/Throwable", "<init>", "(Ljava/lang/String;)V"⟩ prog_18_method_2_code 2 none ∈ lw_tbl := List.mem_append_right _ (List.mem_of_getElem? (i := 239) (by decide +kernel))
theorem tm241 : Cond.fieldLink "java/lang/Throwable" 31 "java/lang/Throwable" "detailMessage" "Ljava/lang/String;" ∈ lw_tbl := List.mem_append_right _ (List.mem_of_getElem? (i := 241) (by decide +kernel))
theorem tm242 : Cond.fieldLink "java/lang/Throwable" 7 "java/lang/Throwable" "cause" "Ljava/lang/Throwable;" ∈ lw_tbl := List.mem_append_right _ (List.mem_of_getElem? (i := 242) (by decide +kernel))
theorem tm243 : Cond.fieldLink "java/lang/Throwable" 17 "java/lang/Throwable" "stackTrace" "[Ljava/lang/StackTraceElement;" ∈ lw_tbl := List.mem_append_right _ (List.mem_of_getElem? (i := 243) (by decide +kernel))
theorem tm244 : Cond.fieldLink "java/lang/Throwable" 24 "java/lang/Throwable" "suppressedExceptions" "Ljava/util/List;" ∈ lw_tbl := List.mem_append_right _ (List.mem_of_getElem? (i := 244) (by decide +kernel))
theorem tm253 : Cond.arrayClass .byte ∈ lw_tbl := List.mem_append_right _ (List.mem_of_getElem? (i := 253) (by decide +kernel))
theorem tm254 : Cond.classLink "CreditLinks" 51 "java/lang/IllegalArgumentException" ∈ lw_tbl := List.mem_append_right _ (List.mem_of_getElem? (i := 254) (by decide +kernel))
theorem tm255 : Cond.instantiable "java/lang/IllegalArgumentException" 6 ∈ lw_tbl := List.mem_append_right _ (List.mem_of_getElem? (i := 255) (by decide +kernel))
theorem tm257 : Cond.selects "java/lang/IllegalArgumentException" ⟨"java/lang/Throwable", "fillInStackTrace", "(I)Ljava/lang/Throwable;"⟩ ⟨"java/lang/Throwable", "fillInStackTrace", "(I)Ljava/lang/Throwable;"⟩ ∈ lw_tbl := List.mem_append_right _ (List.mem_of_getElem? (i := 257) (by decide +kernel))
theorem tm264 : Cond.methodLink "CreditLinks" 55 ⟨"java/lang/IllegalArgumentException", "<init>", "(Ljava/lang/String;)V"⟩ ∈ lw_tbl := List.mem_append_right _ (List.mem_of_getElem? (i := 264) (by decide +kernel))
theorem tm265 : Cond.instanceMethod ⟨"java/lang/IllegalArgumentException", "<init>", "(Ljava/lang/String;)V"⟩ ∈ lw_tbl := List.mem_append_right _ (List.mem_of_getElem? (i := 265) (by decide +kernel))
theorem tm266 : Cond.code ⟨"java/lang/IllegalArgumentException", "<init>", "(Ljava/lang/String;)V"⟩ prog_10_method_2_code 2 none ∈ lw_tbl := List.mem_append_right _ (List.mem_of_getElem? (i := 266) (by decide +kernel))
theorem tm267 : Cond.methodLink "java/lang/IllegalArgumentException" 7 ⟨"java/lang/RuntimeException", "<init>", "(Ljava/lang/String;)V"⟩ ∈ lw_tbl := List.mem_append_right _ (List.mem_of_getElem? (i := 267) (by decide +kernel))
theorem tm270 : Cond.methodLink "CreditLinksLaw" 80 ⟨"CreditLinksLaw", "grant", "(LCreditLinks;II[J)I"⟩ ∈ lw_tbl := List.mem_append_right _ (List.mem_of_getElem? (i := 270) (by decide +kernel))
theorem tm271 : Cond.static ⟨"CreditLinksLaw", "grant", "(LCreditLinks;II[J)I"⟩ ∈ lw_tbl := List.mem_append_right _ (List.mem_of_getElem? (i := 271) (by decide +kernel))
theorem tm272 : Cond.codeWith ⟨"CreditLinksLaw", "grant", "(LCreditLinks;II[J)I"⟩ method_4_code 5 (Option.some .int) [(0, 10, 13, 13), (0, 10, 17, 15), (0, 10, 21, 20)] ∈ lw_tbl := List.mem_append_right _ (List.mem_of_getElem? (i := 272) (by decide +kernel))
theorem tm273 : Cond.classLink "CreditLinksLaw" 20 "java/lang/IllegalStateException" ∈ lw_tbl := List.mem_append_right _ (List.mem_of_getElem? (i := 273) (by decide +kernel))
theorem tm274 : Cond.methodLink "CreditLinksLaw" 17 ⟨"CreditLinks", "grant", "(II)I"⟩ ∈ lw_tbl := List.mem_append_right _ (List.mem_of_getElem? (i := 274) (by decide +kernel))
theorem tm275 : Cond.instanceMethod ⟨"CreditLinks", "grant", "(II)I"⟩ ∈ lw_tbl := List.mem_append_right _ (List.mem_of_getElem? (i := 275) (by decide +kernel))
theorem tm276 : Cond.selects "CreditLinks" ⟨"CreditLinks", "grant", "(II)I"⟩ ⟨"CreditLinks", "grant", "(II)I"⟩ ∈ lw_tbl := List.mem_append_right _ (List.mem_of_getElem? (i := 276) (by decide +kernel))
theorem tm277 : Cond.code ⟨"CreditLinks", "grant", "(II)I"⟩ prog_1_method_3_code 5 (Option.some .int) ∈ lw_tbl := List.mem_append_right _ (List.mem_of_getElem? (i := 277) (by decide +kernel))
theorem tm279 : Cond.methodLink "CreditLinks" 63 ⟨"CreditLinks", "requireConnection", "()V"⟩ ∈ lw_tbl := List.mem_append_right _ (List.mem_of_getElem? (i := 279) (by decide +kernel))
theorem tm281 : Cond.instanceMethod ⟨"CreditLinks", "requireConnection", "()V"⟩ ∈ lw_tbl := List.mem_append_right _ (List.mem_of_getElem? (i := 281) (by decide +kernel))
theorem tm282 : Cond.code ⟨"CreditLinks", "requireConnection", "()V"⟩ prog_1_method_25_code 1 none ∈ lw_tbl := List.mem_append_right _ (List.mem_of_getElem? (i := 282) (by decide +kernel))
theorem tm283 : Cond.classLink "CreditLinks" 86 "java/lang/IllegalStateException" ∈ lw_tbl := List.mem_append_right _ (List.mem_of_getElem? (i := 283) (by decide +kernel))
theorem tm284 : Cond.instantiable "java/lang/IllegalStateException" 6 ∈ lw_tbl := List.mem_append_right _ (List.mem_of_getElem? (i := 284) (by decide +kernel))
theorem tm286 : Cond.selects "java/lang/IllegalStateException" ⟨"java/lang/Throwable", "fillInStackTrace", "(I)Ljava/lang/Throwable;"⟩ ⟨"java/lang/Throwable", "fillInStackTrace", "(I)Ljava/lang/Throwable;"⟩ ∈ lw_tbl := List.mem_append_right _ (List.mem_of_getElem? (i := 286) (by decide +kernel))
theorem tm293 : Cond.methodLink "CreditLinks" 90 ⟨"java/lang/IllegalStateException", "<init>", "(Ljava/lang/String;)V"⟩ ∈ lw_tbl := List.mem_append_right _ (List.mem_of_getElem? (i := 293) (by decide +kernel))
theorem tm294 : Cond.instanceMethod ⟨"java/lang/IllegalStateException", "<init>", "(Ljava/lang/String;)V"⟩ ∈ lw_tbl := List.mem_append_right _ (List.mem_of_getElem? (i := 294) (by decide +kernel))
theorem tm295 : Cond.code ⟨"java/lang/IllegalStateException", "<init>", "(Ljava/lang/String;)V"⟩ prog_11_method_2_code 2 none ∈ lw_tbl := List.mem_append_right _ (List.mem_of_getElem? (i := 295) (by decide +kernel))
theorem tm296 : Cond.methodLink "java/lang/IllegalStateException" 7 ⟨"java/lang/RuntimeException", "<init>", "(Ljava/lang/String;)V"⟩ ∈ lw_tbl := List.mem_append_right _ (List.mem_of_getElem? (i := 296) (by decide +kernel))
theorem tm299 : Cond.methodLink "CreditLinks" 69 ⟨"CreditLinks", "wrapped", "(I)I"⟩ ∈ lw_tbl := List.mem_append_right _ (List.mem_of_getElem? (i := 299) (by decide +kernel))
theorem tm300 : Cond.static ⟨"CreditLinks", "wrapped", "(I)I"⟩ ∈ lw_tbl := List.mem_append_right _ (List.mem_of_getElem? (i := 300) (by decide +kernel))
theorem tm301 : Cond.code ⟨"CreditLinks", "wrapped", "(I)I"⟩ prog_1_method_30_code 1 (Option.some .int) ∈ lw_tbl := List.mem_append_right _ (List.mem_of_getElem? (i := 301) (by decide +kernel))
theorem tm302 : Cond.methodLink "CreditLinks" 199 ⟨"java/lang/Math", "floorMod", "(II)I"⟩ ∈ lw_tbl := List.mem_append_right _ (List.mem_of_getElem? (i := 302) (by decide +kernel))
theorem tm303 : Cond.static ⟨"java/lang/Math", "floorMod", "(II)I"⟩ ∈ lw_tbl := List.mem_append_right _ (List.mem_of_getElem? (i := 303) (by decide +kernel))
theorem tm304 : Cond.code ⟨"java/lang/Math", "floorMod", "(II)I"⟩ prog_14_method_50_code 3 (Option.some .int) ∈ lw_tbl := List.mem_append_right _ (List.mem_of_getElem? (i := 304) (by decide +kernel))
theorem tm305 : Cond.methodLink "CreditLinks" 73 ⟨"CreditLinks$Row", "add", "(III)V"⟩ ∈ lw_tbl := List.mem_append_right _ (List.mem_of_getElem? (i := 305) (by decide +kernel))
theorem tm306 : Cond.instanceMethod ⟨"CreditLinks$Row", "add", "(III)V"⟩ ∈ lw_tbl := List.mem_append_right _ (List.mem_of_getElem? (i := 306) (by decide +kernel))
theorem tm307 : Cond.selects "CreditLinks$Row" ⟨"CreditLinks$Row", "add", "(III)V"⟩ ⟨"CreditLinks$Row", "add", "(III)V"⟩ ∈ lw_tbl := List.mem_append_right _ (List.mem_of_getElem? (i := 307) (by decide +kernel))
theorem tm308 : Cond.code ⟨"CreditLinks$Row", "add", "(III)V"⟩ prog_4_method_3_code 5 none ∈ lw_tbl := List.mem_append_right _ (List.mem_of_getElem? (i := 308) (by decide +kernel))
theorem tm309 : Cond.methodLink "CreditLinksLaw" 83 ⟨"CreditLinksLaw", "credit", "(LCreditLinks;I[J)I"⟩ ∈ lw_tbl := List.mem_append_right _ (List.mem_of_getElem? (i := 309) (by decide +kernel))
theorem tm310 : Cond.static ⟨"CreditLinksLaw", "credit", "(LCreditLinks;I[J)I"⟩ ∈ lw_tbl := List.mem_append_right _ (List.mem_of_getElem? (i := 310) (by decide +kernel))
theorem tm311 : Cond.codeWith ⟨"CreditLinksLaw", "credit", "(LCreditLinks;I[J)I"⟩ method_5_code 4 (Option.some .int) [(0, 9, 12, 13)] ∈ lw_tbl := List.mem_append_right _ (List.mem_of_getElem? (i := 311) (by decide +kernel))
theorem tm312 : Cond.methodLink "CreditLinksLaw" 22 ⟨"CreditLinks", "credit", "(I)I"⟩ ∈ lw_tbl := List.mem_append_right _ (List.mem_of_getElem? (i := 312) (by decide +kernel))
theorem tm313 : Cond.instanceMethod ⟨"CreditLinks", "credit", "(I)I"⟩ ∈ lw_tbl := List.mem_append_right _ (List.mem_of_getElem? (i := 313) (by decide +kernel))
theorem tm314 : Cond.selects "CreditLinks" ⟨"CreditLinks", "credit", "(I)I"⟩ ⟨"CreditLinks", "credit", "(I)I"⟩ ∈ lw_tbl := List.mem_append_right _ (List.mem_of_getElem? (i := 314) (by decide +kernel))
theorem tm315 : Cond.code ⟨"CreditLinks", "credit", "(I)I"⟩ prog_1_method_4_code 2 (Option.some .int) ∈ lw_tbl := List.mem_append_right _ (List.mem_of_getElem? (i := 315) (by decide +kernel))
theorem tm316 : Cond.methodLink "CreditLinks" 77 ⟨"CreditLinks$Link", "creditLeft", "()I"⟩ ∈ lw_tbl := List.mem_append_right _ (List.mem_of_getElem? (i := 316) (by decide +kernel))
theorem tm317 : Cond.instanceMethod ⟨"CreditLinks$Link", "creditLeft", "()I"⟩ ∈ lw_tbl := List.mem_append_right _ (List.mem_of_getElem? (i := 317) (by decide +kernel))
theorem tm318 : Cond.selects "CreditLinks$Link" ⟨"CreditLinks$Link", "creditLeft", "()I"⟩ ⟨"CreditLinks$Link", "creditLeft", "()I"⟩ ∈ lw_tbl := List.mem_append_right _ (List.mem_of_getElem? (i := 318) (by decide +kernel))
theorem tm319 : Cond.code ⟨"CreditLinks$Link", "creditLeft", "()I"⟩ prog_3_method_2_code 1 (Option.some .int) ∈ lw_tbl := List.mem_append_right _ (List.mem_of_getElem? (i := 319) (by decide +kernel))
theorem tm321 : Cond.methodLink "CreditLinksLaw" 87 ⟨"CreditLinksLaw", "send", "(LCreditLinks;II[J)I"⟩ ∈ lw_tbl := List.mem_append_right _ (List.mem_of_getElem? (i := 321) (by decide +kernel))
theorem tm322 : Cond.static ⟨"CreditLinksLaw", "send", "(LCreditLinks;II[J)I"⟩ ∈ lw_tbl := List.mem_append_right _ (List.mem_of_getElem? (i := 322) (by decide +kernel))
theorem tm323 : Cond.codeWith ⟨"CreditLinksLaw", "send", "(LCreditLinks;II[J)I"⟩ method_6_code 5 (Option.some .int) [(0, 10, 13, 13), (0, 10, 17, 15), (0, 10, 21, 20)] ∈ lw_tbl := List.mem_append_right _ (List.mem_of_getElem? (i := 323) (by decide +kernel))
theorem tm324 : Cond.methodLink "CreditLinksLaw" 26 ⟨"CreditLinks", "send", "(II)I"⟩ ∈ lw_tbl := List.mem_append_right _ (List.mem_of_getElem? (i := 324) (by decide +kernel))
theorem tm325 : Cond.instanceMethod ⟨"CreditLinks", "send", "(II)I"⟩ ∈ lw_tbl := List.mem_append_right _ (List.mem_of_getElem? (i := 325) (by decide +kernel))
theorem tm326 : Cond.selects "CreditLinks" ⟨"CreditLinks", "send", "(II)I"⟩ ⟨"CreditLinks", "send", "(II)I"⟩ ∈ lw_tbl := List.mem_append_right _ (List.mem_of_getElem? (i := 326) (by decide +kernel))
theorem tm327 : Cond.code ⟨"CreditLinks", "send", "(II)I"⟩ prog_1_method_5_code 5 (Option.some .int) ∈ lw_tbl := List.mem_append_right _ (List.mem_of_getElem? (i := 327) (by decide +kernel))
theorem tm331 : Cond.instantiable "CreditLinks$Delivery" 12 ∈ lw_tbl := List.mem_append_right _ (List.mem_of_getElem? (i := 331) (by decide +kernel))
theorem tm332 : Cond.methodLink "CreditLinks" 95 ⟨"CreditLinks$Delivery", "<init>", "(IIII)V"⟩ ∈ lw_tbl := List.mem_append_right _ (List.mem_of_getElem? (i := 332) (by decide +kernel))
theorem tm333 : Cond.instanceMethod ⟨"CreditLinks$Delivery", "<init>", "(IIII)V"⟩ ∈ lw_tbl := List.mem_append_right _ (List.mem_of_getElem? (i := 333) (by decide +kernel))
theorem tm334 : Cond.code ⟨"CreditLinks$Delivery", "<init>", "(IIII)V"⟩ prog_2_method_1_code 5 none ∈ lw_tbl := List.mem_append_right _ (List.mem_of_getElem? (i := 334) (by decide +kernel))
theorem tm335 : Cond.methodLink "CreditLinks$Delivery" 3 ⟨"java/lang/Object", "<init>", "()V"⟩ ∈ lw_tbl := List.mem_append_right _ (List.mem_of_getElem? (i := 335) (by decide +kernel))
theorem tm336 : Cond.fieldLink "CreditLinks$Delivery" 33 "CreditLinks$Delivery" "number" "I" ∈ lw_tbl := List.mem_append_right _ (List.mem_of_getElem? (i := 336) (by decide +kernel))
theorem tm337 : Cond.fieldLink "CreditLinks" 108 "CreditLinks$Delivery" "number" "I" ∈ lw_tbl := List.mem_append_right _ (List.mem_of_getElem? (i := 337) (by decide +kernel))
theorem tm338 : Cond.fieldLink "CreditLinks$Delivery" 36 "CreditLinks$Delivery" "link" "I" ∈ lw_tbl := List.mem_append_right _ (List.mem_of_getElem? (i := 338) (by decide +kernel))
theorem tm339 : Cond.fieldLink "CreditLinks" 223 "CreditLinks$Delivery" "link" "I" ∈ lw_tbl := List.mem_append_right _ (List.mem_of_getElem? (i := 339) (by decide +kernel))
theorem tm340 : Cond.fieldLink "CreditLinks$Delivery" 39 "CreditLinks$Delivery" "mode" "I" ∈ lw_tbl := List.mem_append_right _ (List.mem_of_getElem? (i := 340) (by decide +kernel))
theorem tm341 : Cond.fieldLink "CreditLinks" 236 "CreditLinks$Delivery" "mode" "I" ∈ lw_tbl := List.mem_append_right _ (List.mem_of_getElem? (i := 341) (by decide +kernel))
theorem tm342 : Cond.fieldLink "CreditLinks$Delivery" 42 "CreditLinks$Delivery" "parts" "I" ∈ lw_tbl := List.mem_append_right _ (List.mem_of_getElem? (i := 342) (by decide +kernel))
theorem tm343 : Cond.fieldLink "CreditLinks" 205 "CreditLinks$Delivery" "parts" "I" ∈ lw_tbl := List.mem_append_right _ (List.mem_of_getElem? (i := 343) (by decide +kernel))
theorem tm344 : Cond.fieldLink "CreditLinks$Delivery" 45 "CreditLinks$Delivery" "atSender" "I" ∈ lw_tbl := List.mem_append_right _ (List.mem_of_getElem? (i := 344) (by decide +kernel))
theorem tm345 : Cond.fieldLink "CreditLinks" 142 "CreditLinks$Delivery" "atSender" "I" ∈ lw_tbl := List.mem_append_right _ (List.mem_of_getElem? (i := 345) (by decide +kernel))
theorem tm346 : Cond.fieldLink "CreditLinks$Delivery" 9 "CreditLinks$Delivery" "outcomeAtSender" "I" ∈ lw_tbl := List.mem_append_right _ (List.mem_of_getElem? (i := 346) (by decide +kernel))
theorem tm347 : Cond.fieldLink "CreditLinks" 145 "CreditLinks$Delivery" "outcomeAtSender" "I" ∈ lw_tbl := List.mem_append_right _ (List.mem_of_getElem? (i := 347) (by decide +kernel))
theorem tm348 : Cond.fieldLink "CreditLinks$Delivery" 15 "CreditLinks$Delivery" "atReceiver" "I" ∈ lw_tbl := List.mem_append_right _ (List.mem_of_getElem? (i := 348) (by decide +kernel))
theorem tm349 : Cond.fieldLink "CreditLinks" 148 "CreditLinks$Delivery" "atReceiver" "I" ∈ lw_tbl := List.mem_append_right _ (List.mem_of_getElem? (i := 349) (by decide +kernel))
theorem tm350 : Cond.fieldLink "CreditLinks$Delivery" 18 "CreditLinks$Delivery" "beforeParts" "I" ∈ lw_tbl := List.mem_append_right _ (List.mem_of_getElem? (i := 350) (by decide +kernel))
theorem tm351 : Cond.fieldLink "CreditLinks$Delivery" 21 "CreditLinks$Delivery" "nextPart" "I" ∈ lw_tbl := List.mem_append_right _ (List.mem_of_getElem? (i := 351) (by decide +kernel))
theorem tm352 : Cond.fieldLink "CreditLinks$Delivery" 24 "CreditLinks$Delivery" "outcomeAtReceiver" "I" ∈ lw_tbl := List.mem_append_right _ (List.mem_of_getElem? (i := 352) (by decide +kernel))
theorem tm353 : Cond.fieldLink "CreditLinks$Delivery" 27 "CreditLinks$Delivery" "outcomeWaiting" "I" ∈ lw_tbl := List.mem_append_right _ (List.mem_of_getElem? (i := 353) (by decide +kernel))
theorem tm354 : Cond.fieldLink "CreditLinks" 177 "CreditLinks$Delivery" "outcomeWaiting" "I" ∈ lw_tbl := List.mem_append_right _ (List.mem_of_getElem? (i := 354) (by decide +kernel))
theorem tm355 : Cond.fieldLink "CreditLinks$Delivery" 30 "CreditLinks$Delivery" "effectCount" "I" ∈ lw_tbl := List.mem_append_right _ (List.mem_of_getElem? (i := 355) (by decide +kernel))
theorem tm356 : Cond.fieldLink "CreditLinks" 139 "CreditLinks$Delivery" "effectCount" "I" ∈ lw_tbl := List.mem_append_right _ (List.mem_of_getElem? (i := 356) (by decide +kernel))
theorem tm382 : Cond.methodLink "CreditLinks" 98 ⟨"java/util/ArrayList", "add", "(Ljava/lang/Object;)Z"⟩ ∈ lw_tbl := List.mem_append_right _ (List.mem_of_getElem? (i := 382) (by decide +kernel))
theorem tm383 : Cond.instanceMethod ⟨"java/util/ArrayList", "add", "(Ljava/lang/Object;)Z"⟩ ∈ lw_tbl := List.mem_append_right _ (List.mem_of_getElem? (i := 383) (by decide +kernel))
theorem tm384 : Cond.selects "java/util/ArrayList" ⟨"java/util/ArrayList", "add", "(Ljava/lang/Object;)Z"⟩ ⟨"java/util/ArrayList", "add", "(Ljava/lang/Object;)Z"⟩ ∈ lw_tbl := List.mem_append_right _ (List.mem_of_getElem? (i := 384) (by decide +kernel))
theorem tm385 : Cond.code ⟨"java/util/ArrayList", "add", "(Ljava/lang/Object;)Z"⟩ prog_21_method_25_code 2 (Option.some .boolean) ∈ lw_tbl := List.mem_append_right _ (List.mem_of_getElem? (i := 385) (by decide +kernel))
theorem tm386 : Cond.methodLink "java/util/ArrayList" 131 ⟨"java/util/ArrayList", "add", "(Ljava/lang/Object;[Ljava/lang/Object;I)V"⟩ ∈ lw_tbl := List.mem_append_right _ (List.mem_of_getElem? (i := 386) (by decide +kernel))
theorem tm388 : Cond.instanceMethod ⟨"java/util/ArrayList", "add", "(Ljava/lang/Object;[Ljava/lang/Object;I)V"⟩ ∈ lw_tbl := List.mem_append_right _ (List.mem_of_getElem? (i := 388) (by decide +kernel))
theorem tm389 : Cond.code ⟨"java/util/ArrayList", "add", "(Ljava/lang/Object;[Ljava/lang/Object;I)V"⟩ prog_21_method_24_code 4 none ∈ lw_tbl := List.mem_append_right _ (List.mem_of_getElem? (i := 389) (by decide +kernel))
theorem tm390 : Cond.methodLink "java/util/ArrayList" 129 ⟨"java/util/ArrayList", "grow", "()[Ljava/lang/Object;"⟩ ∈ lw_tbl := List.mem_append_right _ (List.mem_of_getElem? (i := 390) (by decide +kernel))
theorem tm392 : Cond.instanceMethod ⟨"java/util/ArrayList", "grow", "()[Ljava/lang/Object;"⟩ ∈ lw_tbl := List.mem_append_right _ (List.mem_of_getElem? (i := 392) (by decide +kernel))
theorem tm393 : Cond.code ⟨"java/util/ArrayList", "grow", "()[Ljava/lang/Object;"⟩ prog_21_method_7_code 1 (Option.some (.array (.object "java/lang/Object"))) ∈ lw_tbl := List.mem_append_right _ (List.mem_of_getElem? (i := 393) (by decide +kernel))
theorem tm394 : Cond.methodLink "java/util/ArrayList" 69 ⟨"java/util/ArrayList", "grow", "(I)[Ljava/lang/Object;"⟩ ∈ lw_tbl := List.mem_append_right _ (List.mem_of_getElem? (i := 394) (by decide +kernel))
theorem tm396 : Cond.instanceMethod ⟨"java/util/ArrayList", "grow", "(I)[Ljava/lang/Object;"⟩ ∈ lw_tbl := List.mem_append_right _ (List.mem_of_getElem? (i := 396) (by decide +kernel))
theorem tm397 : Cond.code ⟨"java/util/ArrayList", "grow", "(I)[Ljava/lang/Object;"⟩ prog_21_method_6_code 4 (Option.some (.array (.object "java/lang/Object"))) ∈ lw_tbl := List.mem_append_right _ (List.mem_of_getElem? (i := 397) (by decide +kernel))
theorem tm398 : Cond.methodLink "java/util/ArrayList" 73 ⟨"jdk/internal/util/ArraysSupport", "newLength", "(III)I"⟩ ∈ lw_tbl := List.mem_append_right _ (List.mem_of_getElem? (i := 398) (by decide +kernel))
theorem tm399 : Cond.static ⟨"jdk/internal/util/ArraysSupport", "newLength", "(III)I"⟩ ∈ lw_tbl := List.mem_append_right _ (List.mem_of_getElem? (i := 399) (by decide +kernel))
theorem tm400 : Cond.code ⟨"jdk/internal/util/ArraysSupport", "newLength", "(III)I"⟩ prog_28_method_27_code 4 (Option.some .int) ∈ lw_tbl := List.mem_append_right _ (List.mem_of_getElem? (i := 400) (by decide +kernel))
theorem tm401 : Cond.methodLink "jdk/internal/util/ArraysSupport" 194 ⟨"java/lang/Math", "max", "(II)I"⟩ ∈ lw_tbl := List.mem_append_right _ (List.mem_of_getElem? (i := 401) (by decide +kernel))
theorem tm402 : Cond.static ⟨"java/lang/Math", "max", "(II)I"⟩ ∈ lw_tbl := List.mem_append_right _ (List.mem_of_getElem? (i := 402) (by decide +kernel))
theorem tm403 : Cond.code ⟨"java/lang/Math", "max", "(II)I"⟩ prog_14_method_65_code 2 (Option.some .int) ∈ lw_tbl := List.mem_append_right _ (List.mem_of_getElem? (i := 403) (by decide +kernel))
theorem tm404 : Cond.constant "jdk/internal/util/ArraysSupport" 200 (2147483639 : Int32) ∈ lw_tbl := List.mem_append_right _ (List.mem_of_getElem? (i := 404) (by decide +kernel))
theorem tm405 : Cond.methodLink "jdk/internal/util/ArraysSupport" 201 ⟨"jdk/internal/util/ArraysSupport", "hugeLength", "(II)I"⟩ ∈ lw_tbl := List.mem_append_right _ (List.mem_of_getElem? (i := 405) (by decide +kernel))
theorem tm406 : Cond.static ⟨"jdk/internal/util/ArraysSupport", "hugeLength", "(II)I"⟩ ∈ lw_tbl := List.mem_append_right _ (List.mem_of_getElem? (i := 406) (by decide +kernel))
theorem tm407 : Cond.code ⟨"jdk/internal/util/ArraysSupport", "hugeLength", "(II)I"⟩ prog_28_method_28_code 3 (Option.some .int) ∈ lw_tbl := List.mem_append_right _ (List.mem_of_getElem? (i := 407) (by decide +kernel))
theorem tm408 : Cond.methodLink "java/util/ArrayList" 66 ⟨"java/util/Arrays", "copyOf", "([Ljava/lang/Object;I)[Ljava/lang/Object;"⟩ ∈ lw_tbl := List.mem_append_right _ (List.mem_of_getElem? (i := 408) (by decide +kernel))
theorem tm409 : Cond.static ⟨"java/util/Arrays", "copyOf", "([Ljava/lang/Object;I)[Ljava/lang/Object;"⟩ ∈ lw_tbl := List.mem_append_right _ (List.mem_of_getElem? (i := 409) (by decide +kernel))
theorem tm410 : Cond.code ⟨"java/util/Arrays", "copyOf", "([Ljava/lang/Object;I)[Ljava/lang/Object;"⟩ prog_22_method_119_code 2 (Option.some (.array (.object "java/lang/Object"))) ∈ lw_tbl := List.mem_append_right _ (List.mem_of_getElem? (i := 410) (by decide +kernel))
theorem tm411 : Cond.methodLink "java/util/Arrays" 86 ⟨"java/lang/Object", "getClass", "()Ljava/lang/Class;"⟩ ∈ lw_tbl := List.mem_append_right _ (List.mem_of_getElem? (i := 411) (by decide +kernel))
theorem tm412 : Cond.instanceMethod ⟨"java/lang/Object", "getClass", "()Ljava/lang/Class;"⟩ ∈ lw_tbl := List.mem_append_right _ (List.mem_of_getElem? (i := 412) (by decide +kernel))
theorem tm413 : Cond.sameMethod "java/lang/Object" "java/lang/Object" "getClass" "()Ljava/lang/Class;" ∈ lw_tbl := List.mem_append_right _ (List.mem_of_getElem? (i := 413) (by decide +kernel))
theorem tm414 : Cond.selects "CreditLinks" ⟨"java/lang/Object", "getClass", "()Ljava/lang/Class;"⟩ ⟨"java/lang/Object", "getClass", "()Ljava/lang/Class;"⟩ ∈ lw_tbl := List.mem_append_right _ (List.mem_of_getElem? (i := 414) (by decide +kernel))
theorem tm415 : Cond.selects "CreditLinks$Delivery" ⟨"java/lang/Object", "getClass", "()Ljava/lang/Class;"⟩ ⟨"java/lang/Object", "getClass", "()Ljava/lang/Class;"⟩ ∈ lw_tbl := List.mem_append_right _ (List.mem_of_getElem? (i := 415) (by decide +kernel))
theorem tm416 : Cond.selects "CreditLinks$Link" ⟨"java/lang/Object", "getClass", "()Ljava/lang/Class;"⟩ ⟨"java/lang/Object", "getClass", "()Ljava/lang/Class;"⟩ ∈ lw_tbl := List.mem_append_right _ (List.mem_of_getElem? (i := 416) (by decide +kernel))
theorem tm417 : Cond.selects "CreditLinks$Row" ⟨"java/lang/Object", "getClass", "()Ljava/lang/Class;"⟩ ⟨"java/lang/Object", "getClass", "()Ljava/lang/Class;"⟩ ∈ lw_tbl := List.mem_append_right _ (List.mem_of_getElem? (i := 417) (by decide +kernel))
theorem tm418 : Cond.selects "CreditLinksModel" ⟨"java/lang/Object", "getClass", "()Ljava/lang/Class;"⟩ ⟨"java/lang/Object", "getClass", "()Ljava/lang/Class;"⟩ ∈ lw_tbl := List.mem_append_right _ (List.mem_of_getElem? (i := 418) (by decide +kernel))
theorem tm419 : Cond.selects "java/lang/IllegalArgumentException" ⟨"java/lang/Object", "getClass", "()Ljava/lang/Class;"⟩ ⟨"java/lang/Object", "getClass", "()Ljava/lang/Class;"⟩ ∈ lw_tbl := List.mem_append_right _ (List.mem_of_getElem? (i := 419) (by decide +kernel))
theorem tm420 : Cond.selects "java/lang/IllegalStateException" ⟨"java/lang/Object", "getClass", "()Ljava/lang/Class;"⟩ ⟨"java/lang/Object", "getClass", "()Ljava/lang/Class;"⟩ ∈ lw_tbl := List.mem_append_right _ (List.mem_of_getElem? (i := 420) (by decide +kernel))
theorem tm421 : Cond.selects "java/lang/IndexOutOfBoundsException" ⟨"java/lang/Object", "getClass", "()Ljava/lang/Class;"⟩ ⟨"java/lang/Object", "getClass", "()Ljava/lang/Class;"⟩ ∈ lw_tbl := List.mem_append_right _ (List.mem_of_getElem? (i := 421) (by decide +kernel))
theorem tm422 : Cond.selects "java/util/ArrayList" ⟨"java/lang/Object", "getClass", "()Ljava/lang/Class;"⟩ ⟨"java/lang/Object", "getClass", "()Ljava/lang/Class;"⟩ ∈ lw_tbl := List.mem_append_right _ (List.mem_of_getElem? (i := 422) (by decide +kernel))
theorem tm423 : Cond.native ⟨"java/lang/Object", "getClass", "()Ljava/lang/Class;"⟩ ∈ lw_tbl := List.mem_append_right _ (List.mem_of_getElem? (i := 423) (by decide +kernel))
theorem tm424 : Cond.methodLink "java/util/Arrays" 300 ⟨"java/util/Arrays", "copyOf", "([Ljava/lang/Object;ILjava/lang/Class;)[Ljava/lang/Object;"⟩ ∈ lw_tbl := List.mem_append_right _ (List.mem_of_getElem? (i := 424) (by decide +kernel))
theorem tm425 : Cond.static ⟨"java/util/Arrays", "copyOf", "([Ljava/lang/Object;ILjava/lang/Class;)[Ljava/lang/Object;"⟩ ∈ lw_tbl := List.mem_append_right _ (List.mem_of_getElem? (i := 425) (by decide +kernel))
theorem tm426 : Cond.code ⟨"java/util/Arrays", "copyOf", "([Ljava/lang/Object;ILjava/lang/Class;)[Ljava/lang/Object;"⟩ prog_22_method_120_code 4 (Option.some (.array (.object "java/lang/Object"))) ∈ lw_tbl := List.mem_append_right _ (List.mem_of_getElem? (i := 426) (by decide +kernel))
theorem tm427 : Cond.classLink "java/util/Arrays" 110 "[Ljava/lang/Object;" ∈ lw_tbl := List.mem_append_right _ (List.mem_of_getElem? (i := 427) (by decide +kernel))
theorem tm429 : Cond.classLink "java/util/Arrays" 2 "java/lang/Object" ∈ lw_tbl := List.mem_append_right _ (List.mem_of_getElem? (i := 429) (by decide +kernel))
theorem tm430 : Cond.methodLink "java/util/Arrays" 304 ⟨"java/lang/Math", "min", "(II)I"⟩ ∈ lw_tbl := List.mem_append_right _ (List.mem_of_getElem? (i := 430) (by decide +kernel))
theorem tm431 : Cond.static ⟨"java/lang/Math", "min", "(II)I"⟩ ∈ lw_tbl := List.mem_append_right _ (List.mem_of_getElem? (i := 431) (by decide +kernel))
theorem tm432 : Cond.code ⟨"java/lang/Math", "min", "(II)I"⟩ prog_14_method_69_code 2 (Option.some .int) ∈ lw_tbl := List.mem_append_right _ (List.mem_of_getElem? (i := 432) (by decide +kernel))
theorem tm433 : Cond.methodLink "java/util/Arrays" 150 ⟨"java/lang/System", "arraycopy", "(Ljava/lang/Object;ILjava/lang/Object;II)V"⟩ ∈ lw_tbl := List.mem_append_right _ (List.mem_of_getElem? (i := 433) (by decide +kernel))
theorem tm434 : Cond.static ⟨"java/lang/System", "arraycopy", "(Ljava/lang/Object;ILjava/lang/Object;II)V"⟩ ∈ lw_tbl := List.mem_append_right _ (List.mem_of_getElem? (i := 434) (by decide +kernel))
theorem tm435 : Cond.native ⟨"java/lang/System", "arraycopy", "(Ljava/lang/Object;ILjava/lang/Object;II)V"⟩ ∈ lw_tbl := List.mem_append_right _ (List.mem_of_getElem? (i := 435) (by decide +kernel))
theorem tm436 : Cond.methodLink "java/util/ArrayList" 79 ⟨"java/lang/Math", "max", "(II)I"⟩ ∈ lw_tbl := List.mem_append_right _ (List.mem_of_getElem? (i := 436) (by decide +kernel))
theorem tm437 : Cond.classLink "java/util/ArrayList" 7 "java/lang/Object" ∈ lw_tbl := List.mem_append_right _ (List.mem_of_getElem? (i := 437) (by decide +kernel))
theorem tm438 : Cond.methodLink "CreditLinks" 101 ⟨"CreditLinks$Link", "countSent", "()V"⟩ ∈ lw_tbl := List.mem_append_right _ (List.mem_of_getElem? (i := 438) (by decide +kernel))
theorem tm439 : Cond.instanceMethod ⟨"CreditLinks$Link", "countSent", "()V"⟩ ∈ lw_tbl := List.mem_append_right _ (List.mem_of_getElem? (i := 439) (by decide +kernel))
theorem tm440 : Cond.selects "CreditLinks$Link" ⟨"CreditLinks$Link", "countSent", "()V"⟩ ⟨"CreditLinks$Link", "countSent", "()V"⟩ ∈ lw_tbl := List.mem_append_right _ (List.mem_of_getElem? (i := 440) (by decide +kernel))
theorem tm441 : Cond.code ⟨"CreditLinks$Link", "countSent", "()V"⟩ prog_3_method_3_code 1 none ∈ lw_tbl := List.mem_append_right _ (List.mem_of_getElem? (i := 441) (by decide +kernel))
theorem tm442 : Cond.methodLink "CreditLinks" 104 ⟨"CreditLinks", "addParts", "(LCreditLinks$Delivery;I)V"⟩ ∈ lw_tbl := List.mem_append_right _ (List.mem_of_getElem? (i := 442) (by decide +kernel))
theorem tm444 : Cond.instanceMethod ⟨"CreditLinks", "addParts", "(LCreditLinks$Delivery;I)V"⟩ ∈ lw_tbl := List.mem_append_right _ (List.mem_of_getElem? (i := 444) (by decide +kernel))
theorem tm445 : Cond.code ⟨"CreditLinks", "addParts", "(LCreditLinks$Delivery;I)V"⟩ prog_1_method_31_code 4 none ∈ lw_tbl := List.mem_append_right _ (List.mem_of_getElem? (i := 445) (by decide +kernel))
theorem tm446 : Cond.methodLink "CreditLinksLaw" 90 ⟨"CreditLinksLaw", "toReceiver", "(LCreditLinks;I[J)I"⟩ ∈ lw_tbl := List.mem_append_right _ (List.mem_of_getElem? (i := 446) (by decide +kernel))
theorem tm447 : Cond.static ⟨"CreditLinksLaw", "toReceiver", "(LCreditLinks;I[J)I"⟩ ∈ lw_tbl := List.mem_append_right _ (List.mem_of_getElem? (i := 447) (by decide +kernel))
theorem tm448 : Cond.codeWith ⟨"CreditLinksLaw", "toReceiver", "(LCreditLinks;I[J)I"⟩ method_7_code 4 (Option.some .int) [(0, 9, 12, 15)] ∈ lw_tbl := List.mem_append_right _ (List.mem_of_getElem? (i := 448) (by decide +kernel))
theorem tm449 : Cond.methodLink "CreditLinksLaw" 29 ⟨"CreditLinks", "toReceiver", "(I)I"⟩ ∈ lw_tbl := List.mem_append_right _ (List.mem_of_getElem? (i := 449) (by decide +kernel))
theorem tm450 : Cond.instanceMethod ⟨"CreditLinks", "toReceiver", "(I)I"⟩ ∈ lw_tbl := List.mem_append_right _ (List.mem_of_getElem? (i := 450) (by decide +kernel))
theorem tm451 : Cond.selects "CreditLinks" ⟨"CreditLinks", "toReceiver", "(I)I"⟩ ⟨"CreditLinks", "toReceiver", "(I)I"⟩ ∈ lw_tbl := List.mem_append_right _ (List.mem_of_getElem? (i := 451) (by decide +kernel))
theorem tm452 : Cond.code ⟨"CreditLinks", "toReceiver", "(I)I"⟩ prog_1_method_6_code 4 (Option.some .int) ∈ lw_tbl := List.mem_append_right _ (List.mem_of_getElem? (i := 452) (by decide +kernel))
theorem tm453 : Cond.methodLink "CreditLinks" 111 ⟨"CreditLinks", "requireCount", "(I)V"⟩ ∈ lw_tbl := List.mem_append_right _ (List.mem_of_getElem? (i := 453) (by decide +kernel))
theorem tm454 : Cond.static ⟨"CreditLinks", "requireCount", "(I)V"⟩ ∈ lw_tbl := List.mem_append_right _ (List.mem_of_getElem? (i := 454) (by decide +kernel))
theorem tm455 : Cond.code ⟨"CreditLinks", "requireCount", "(I)V"⟩ prog_1_method_29_code 1 none ∈ lw_tbl := List.mem_append_right _ (List.mem_of_getElem? (i := 455) (by decide +kernel))
theorem tm457 : Cond.methodLink "CreditLinks" 118 ⟨"CreditLinks", "receiverTakesFrame", "()Z"⟩ ∈ lw_tbl := List.mem_append_right _ (List.mem_of_getElem? (i := 457) (by decide +kernel))
theorem tm459 : Cond.instanceMethod ⟨"CreditLinks", "receiverTakesFrame", "()Z"⟩ ∈ lw_tbl := List.mem_append_right _ (List.mem_of_getElem? (i := 459) (by decide +kernel))
theorem tm460 : Cond.code ⟨"CreditLinks", "receiverTakesFrame", "()Z"⟩ prog_1_method_32_code 4 (Option.some .boolean) ∈ lw_tbl := List.mem_append_right _ (List.mem_of_getElem? (i := 460) (by decide +kernel))
theorem tm461 : Cond.methodLink "CreditLinks" 208 ⟨"CreditLinks$Row", "firstKind", "()I"⟩ ∈ lw_tbl := List.mem_append_right _ (List.mem_of_getElem? (i := 461) (by decide +kernel))
theorem tm462 : Cond.instanceMethod ⟨"CreditLinks$Row", "firstKind", "()I"⟩ ∈ lw_tbl := List.mem_append_right _ (List.mem_of_getElem? (i := 462) (by decide +kernel))
theorem tm463 : Cond.selects "CreditLinks$Row" ⟨"CreditLinks$Row", "firstKind", "()I"⟩ ⟨"CreditLinks$Row", "firstKind", "()I"⟩ ∈ lw_tbl := List.mem_append_right _ (List.mem_of_getElem? (i := 463) (by decide +kernel))
theorem tm464 : Cond.code ⟨"CreditLinks$Row", "firstKind", "()I"⟩ prog_4_method_4_code 1 (Option.some .int) ∈ lw_tbl := List.mem_append_right _ (List.mem_of_getElem? (i := 464) (by decide +kernel))
theorem tm465 : Cond.methodLink "CreditLinks" 211 ⟨"CreditLinks$Row", "firstSubject", "()I"⟩ ∈ lw_tbl := List.mem_append_right _ (List.mem_of_getElem? (i := 465) (by decide +kernel))
theorem tm466 : Cond.instanceMethod ⟨"CreditLinks$Row", "firstSubject", "()I"⟩ ∈ lw_tbl := List.mem_append_right _ (List.mem_of_getElem? (i := 466) (by decide +kernel))
theorem tm467 : Cond.selects "CreditLinks$Row" ⟨"CreditLinks$Row", "firstSubject", "()I"⟩ ⟨"CreditLinks$Row", "firstSubject", "()I"⟩ ∈ lw_tbl := List.mem_append_right _ (List.mem_of_getElem? (i := 467) (by decide +kernel))
theorem tm468 : Cond.code ⟨"CreditLinks$Row", "firstSubject", "()I"⟩ prog_4_method_5_code 1 (Option.some .int) ∈ lw_tbl := List.mem_append_right _ (List.mem_of_getElem? (i := 468) (by decide +kernel))
theorem tm469 : Cond.methodLink "CreditLinks" 125 ⟨"CreditLinks", "deliveryAt", "(I)LCreditLinks$Delivery;"⟩ ∈ lw_tbl := List.mem_append_right _ (List.mem_of_getElem? (i := 469) (by decide +kernel))
theorem tm471 : Cond.instanceMethod ⟨"CreditLinks", "deliveryAt", "(I)LCreditLinks$Delivery;"⟩ ∈ lw_tbl := List.mem_append_right _ (List.mem_of_getElem? (i := 471) (by decide +kernel))
theorem tm472 : Cond.code ⟨"CreditLinks", "deliveryAt", "(I)LCreditLinks$Delivery;"⟩ prog_1_method_24_code 2 (Option.some (.object "CreditLinks$Delivery")) ∈ lw_tbl := List.mem_append_right _ (List.mem_of_getElem? (i := 472) (by decide +kernel))
theorem tm474 : Cond.methodLink "CreditLinks" 214 ⟨"CreditLinks$Row", "firstValue", "()I"⟩ ∈ lw_tbl := List.mem_append_right _ (List.mem_of_getElem? (i := 474) (by decide +kernel))
theorem tm475 : Cond.instanceMethod ⟨"CreditLinks$Row", "firstValue", "()I"⟩ ∈ lw_tbl := List.mem_append_right _ (List.mem_of_getElem? (i := 475) (by decide +kernel))
theorem tm476 : Cond.selects "CreditLinks$Row" ⟨"CreditLinks$Row", "firstValue", "()I"⟩ ⟨"CreditLinks$Row", "firstValue", "()I"⟩ ∈ lw_tbl := List.mem_append_right _ (List.mem_of_getElem? (i := 476) (by decide +kernel))
theorem tm477 : Cond.code ⟨"CreditLinks$Row", "firstValue", "()I"⟩ prog_4_method_6_code 1 (Option.some .int) ∈ lw_tbl := List.mem_append_right _ (List.mem_of_getElem? (i := 477) (by decide +kernel))
theorem tm478 : Cond.methodLink "CreditLinks" 217 ⟨"CreditLinks$Row", "dropFirst", "()V"⟩ ∈ lw_tbl := List.mem_append_right _ (List.mem_of_getElem? (i := 478) (by decide +kernel))
theorem tm479 : Cond.instanceMethod ⟨"CreditLinks$Row", "dropFirst", "()V"⟩ ∈ lw_tbl := List.mem_append_right _ (List.mem_of_getElem? (i := 479) (by decide +kernel))
theorem tm480 : Cond.selects "CreditLinks$Row" ⟨"CreditLinks$Row", "dropFirst", "()V"⟩ ⟨"CreditLinks$Row", "dropFirst", "()V"⟩ ∈ lw_tbl := List.mem_append_right _ (List.mem_of_getElem? (i := 480) (by decide +kernel))
theorem tm481 : Cond.code ⟨"CreditLinks$Row", "dropFirst", "()V"⟩ prog_4_method_7_code 1 none ∈ lw_tbl := List.mem_append_right _ (List.mem_of_getElem? (i := 481) (by decide +kernel))
theorem tm482 : Cond.methodLink "CreditLinks" 220 ⟨"CreditLinks$Delivery", "forgetDecided", "()V"⟩ ∈ lw_tbl := List.mem_append_right _ (List.mem_of_getElem? (i := 482) (by decide +kernel))
theorem tm483 : Cond.instanceMethod ⟨"CreditLinks$Delivery", "forgetDecided", "()V"⟩ ∈ lw_tbl := List.mem_append_right _ (List.mem_of_getElem? (i := 483) (by decide +kernel))
theorem tm484 : Cond.selects "CreditLinks$Delivery" ⟨"CreditLinks$Delivery", "forgetDecided", "()V"⟩ ⟨"CreditLinks$Delivery", "forgetDecided", "()V"⟩ ∈ lw_tbl := List.mem_append_right _ (List.mem_of_getElem? (i := 484) (by decide +kernel))
theorem tm485 : Cond.code ⟨"CreditLinks$Delivery", "forgetDecided", "()V"⟩ prog_2_method_4_code 1 none ∈ lw_tbl := List.mem_append_right _ (List.mem_of_getElem? (i := 485) (by decide +kernel))
theorem tm486 : Cond.methodLink "CreditLinks" 226 ⟨"CreditLinks$Link", "countCome", "()V"⟩ ∈ lw_tbl := List.mem_append_right _ (List.mem_of_getElem? (i := 486) (by decide +kernel))
theorem tm487 : Cond.instanceMethod ⟨"CreditLinks$Link", "countCome", "()V"⟩ ∈ lw_tbl := List.mem_append_right _ (List.mem_of_getElem? (i := 487) (by decide +kernel))
theorem tm488 : Cond.selects "CreditLinks$Link" ⟨"CreditLinks$Link", "countCome", "()V"⟩ ⟨"CreditLinks$Link", "countCome", "()V"⟩ ∈ lw_tbl := List.mem_append_right _ (List.mem_of_getElem? (i := 488) (by decide +kernel))
theorem tm489 : Cond.code ⟨"CreditLinks$Link", "countCome", "()V"⟩ prog_3_method_4_code 1 none ∈ lw_tbl := List.mem_append_right _ (List.mem_of_getElem? (i := 489) (by decide +kernel))
theorem tm490 : Cond.methodLink "CreditLinks" 229 ⟨"CreditLinks$Delivery", "takePart", "(I)Z"⟩ ∈ lw_tbl := List.mem_append_right _ (List.mem_of_getElem? (i := 490) (by decide +kernel))
theorem tm491 : Cond.instanceMethod ⟨"CreditLinks$Delivery", "takePart", "(I)Z"⟩ ∈ lw_tbl := List.mem_append_right _ (List.mem_of_getElem? (i := 491) (by decide +kernel))
theorem tm492 : Cond.selects "CreditLinks$Delivery" ⟨"CreditLinks$Delivery", "takePart", "(I)Z"⟩ ⟨"CreditLinks$Delivery", "takePart", "(I)Z"⟩ ∈ lw_tbl := List.mem_append_right _ (List.mem_of_getElem? (i := 492) (by decide +kernel))
theorem tm493 : Cond.code ⟨"CreditLinks$Delivery", "takePart", "(I)Z"⟩ prog_2_method_2_code 4 (Option.some .boolean) ∈ lw_tbl := List.mem_append_right _ (List.mem_of_getElem? (i := 493) (by decide +kernel))
theorem tm494 : Cond.methodLink "CreditLinksLaw" 93 ⟨"CreditLinksLaw", "toSender", "(LCreditLinks;I[J)I"⟩ ∈ lw_tbl := List.mem_append_right _ (List.mem_of_getElem? (i := 494) (by decide +kernel))
theorem tm495 : Cond.static ⟨"CreditLinksLaw", "toSender", "(LCreditLinks;I[J)I"⟩ ∈ lw_tbl := List.mem_append_right _ (List.mem_of_getElem? (i := 495) (by decide +kernel))
theorem tm496 : Cond.codeWith ⟨"CreditLinksLaw", "toSender", "(LCreditLinks;I[J)I"⟩ method_8_code 4 (Option.some .int) [(0, 9, 12, 15)] ∈ lw_tbl := List.mem_append_right _ (List.mem_of_getElem? (i := 496) (by decide +kernel))
theorem tm497 : Cond.methodLink "CreditLinksLaw" 32 ⟨"CreditLinks", "toSender", "(I)I"⟩ ∈ lw_tbl := List.mem_append_right _ (List.mem_of_getElem? (i := 497) (by decide +kernel))
theorem tm498 : Cond.instanceMethod ⟨"CreditLinks", "toSender", "(I)I"⟩ ∈ lw_tbl := List.mem_append_right _ (List.mem_of_getElem? (i := 498) (by decide +kernel))
theorem tm499 : Cond.selects "CreditLinks" ⟨"CreditLinks", "toSender", "(I)I"⟩ ⟨"CreditLinks", "toSender", "(I)I"⟩ ∈ lw_tbl := List.mem_append_right _ (List.mem_of_getElem? (i := 499) (by decide +kernel))
theorem tm500 : Cond.code ⟨"CreditLinks", "toSender", "(I)I"⟩ prog_1_method_7_code 4 (Option.some .int) ∈ lw_tbl := List.mem_append_right _ (List.mem_of_getElem? (i := 500) (by decide +kernel))
theorem tm501 : Cond.methodLink "CreditLinks" 122 ⟨"CreditLinks", "senderTakesFrame", "()Z"⟩ ∈ lw_tbl := List.mem_append_right _ (List.mem_of_getElem? (i := 501) (by decide +kernel))
theorem tm503 : Cond.instanceMethod ⟨"CreditLinks", "senderTakesFrame", "()Z"⟩ ∈ lw_tbl := List.mem_append_right _ (List.mem_of_getElem? (i := 503) (by decide +kernel))
theorem tm504 : Cond.code ⟨"CreditLinks", "senderTakesFrame", "()Z"⟩ prog_1_method_33_code 5 (Option.some .boolean) ∈ lw_tbl := List.mem_append_right _ (List.mem_of_getElem? (i := 504) (by decide +kernel))
theorem tm505 : Cond.methodLink "CreditLinks" 237 ⟨"CreditLinks$Delivery", "settle", "(I)Z"⟩ ∈ lw_tbl := List.mem_append_right _ (List.mem_of_getElem? (i := 505) (by decide +kernel))
theorem tm506 : Cond.instanceMethod ⟨"CreditLinks$Delivery", "settle", "(I)Z"⟩ ∈ lw_tbl := List.mem_append_right _ (List.mem_of_getElem? (i := 506) (by decide +kernel))
theorem tm507 : Cond.selects "CreditLinks$Delivery" ⟨"CreditLinks$Delivery", "settle", "(I)Z"⟩ ⟨"CreditLinks$Delivery", "settle", "(I)Z"⟩ ∈ lw_tbl := List.mem_append_right _ (List.mem_of_getElem? (i := 507) (by decide +kernel))
theorem tm508 : Cond.code ⟨"CreditLinks$Delivery", "settle", "(I)Z"⟩ prog_2_method_5_code 2 (Option.some .boolean) ∈ lw_tbl := List.mem_append_right _ (List.mem_of_getElem? (i := 508) (by decide +kernel))
theorem tm509 : Cond.methodLink "CreditLinksLaw" 96 ⟨"CreditLinksLaw", "decide", "(LCreditLinks;II[J)I"⟩ ∈ lw_tbl := List.mem_append_right _ (List.mem_of_getElem? (i := 509) (by decide +kernel))
theorem tm510 : Cond.static ⟨"CreditLinksLaw", "decide", "(LCreditLinks;II[J)I"⟩ ∈ lw_tbl := List.mem_append_right _ (List.mem_of_getElem? (i := 510) (by decide +kernel))
theorem tm511 : Cond.codeWith ⟨"CreditLinksLaw", "decide", "(LCreditLinks;II[J)I"⟩ method_9_code 5 (Option.some .int) [(0, 10, 13, 13), (0, 10, 17, 15), (0, 10, 21, 20)] ∈ lw_tbl := List.mem_append_right _ (List.mem_of_getElem? (i := 511) (by decide +kernel))
theorem tm512 : Cond.methodLink "CreditLinksLaw" 35 ⟨"CreditLinks", "decide", "(II)I"⟩ ∈ lw_tbl := List.mem_append_right _ (List.mem_of_getElem? (i := 512) (by decide +kernel))
theorem tm513 : Cond.instanceMethod ⟨"CreditLinks", "decide", "(II)I"⟩ ∈ lw_tbl := List.mem_append_right _ (List.mem_of_getElem? (i := 513) (by decide +kernel))
theorem tm514 : Cond.selects "CreditLinks" ⟨"CreditLinks", "decide", "(II)I"⟩ ⟨"CreditLinks", "decide", "(II)I"⟩ ∈ lw_tbl := List.mem_append_right _ (List.mem_of_getElem? (i := 514) (by decide +kernel))
theorem tm515 : Cond.code ⟨"CreditLinks", "decide", "(II)I"⟩ prog_1_method_8_code 4 (Option.some .int) ∈ lw_tbl := List.mem_append_right _ (List.mem_of_getElem? (i := 515) (by decide +kernel))
theorem tm516 : Cond.methodLink "CreditLinks" 129 ⟨"CreditLinks", "requireOutcome", "(I)V"⟩ ∈ lw_tbl := List.mem_append_right _ (List.mem_of_getElem? (i := 516) (by decide +kernel))
theorem tm517 : Cond.static ⟨"CreditLinks", "requireOutcome", "(I)V"⟩ ∈ lw_tbl := List.mem_append_right _ (List.mem_of_getElem? (i := 517) (by decide +kernel))
theorem tm518 : Cond.code ⟨"CreditLinks", "requireOutcome", "(I)V"⟩ prog_1_method_28_code 1 none ∈ lw_tbl := List.mem_append_right _ (List.mem_of_getElem? (i := 518) (by decide +kernel))
theorem tm520 : Cond.methodLink "CreditLinks" 132 ⟨"CreditLinks", "requireUndecided", "(LCreditLinks$Delivery;)V"⟩ ∈ lw_tbl := List.mem_append_right _ (List.mem_of_getElem? (i := 520) (by decide +kernel))
theorem tm521 : Cond.static ⟨"CreditLinks", "requireUndecided", "(LCreditLinks$Delivery;)V"⟩ ∈ lw_tbl := List.mem_append_right _ (List.mem_of_getElem? (i := 521) (by decide +kernel))
theorem tm522 : Cond.code ⟨"CreditLinks", "requireUndecided", "(LCreditLinks$Delivery;)V"⟩ prog_1_method_27_code 1 none ∈ lw_tbl := List.mem_append_right _ (List.mem_of_getElem? (i := 522) (by decide +kernel))
theorem tm525 : Cond.methodLink "CreditLinks" 136 ⟨"CreditLinks", "carryOut", "(LCreditLinks$Delivery;I)V"⟩ ∈ lw_tbl := List.mem_append_right _ (List.mem_of_getElem? (i := 525) (by decide +kernel))
theorem tm527 : Cond.instanceMethod ⟨"CreditLinks", "carryOut", "(LCreditLinks$Delivery;I)V"⟩ ∈ lw_tbl := List.mem_append_right _ (List.mem_of_getElem? (i := 527) (by decide +kernel))
theorem tm528 : Cond.code ⟨"CreditLinks", "carryOut", "(LCreditLinks$Delivery;I)V"⟩ prog_1_method_34_code 3 none ∈ lw_tbl := List.mem_append_right _ (List.mem_of_getElem? (i := 528) (by decide +kernel))
theorem tm529 : Cond.methodLink "CreditLinks" 240 ⟨"CreditLinks$Delivery", "takeDecision", "(I)V"⟩ ∈ lw_tbl := List.mem_append_right _ (List.mem_of_getElem? (i := 529) (by decide +kernel))
theorem tm530 : Cond.instanceMethod ⟨"CreditLinks$Delivery", "takeDecision", "(I)V"⟩ ∈ lw_tbl := List.mem_append_right _ (List.mem_of_getElem? (i := 530) (by decide +kernel))
theorem tm531 : Cond.selects "CreditLinks$Delivery" ⟨"CreditLinks$Delivery", "takeDecision", "(I)V"⟩ ⟨"CreditLinks$Delivery", "takeDecision", "(I)V"⟩ ∈ lw_tbl := List.mem_append_right _ (List.mem_of_getElem? (i := 531) (by decide +kernel))
theorem tm532 : Cond.code ⟨"CreditLinks$Delivery", "takeDecision", "(I)V"⟩ prog_2_method_3_code 2 none ∈ lw_tbl := List.mem_append_right _ (List.mem_of_getElem? (i := 532) (by decide +kernel))
theorem tm533 : Cond.methodLink "CreditLinksLaw" 111 ⟨"CreditLinksLaw", "forSender", "(LCreditLinks;I[J)I"⟩ ∈ lw_tbl := List.mem_append_right _ (List.mem_of_getElem? (i := 533) (by decide +kernel))
theorem tm534 : Cond.static ⟨"CreditLinksLaw", "forSender", "(LCreditLinks;I[J)I"⟩ ∈ lw_tbl := List.mem_append_right _ (List.mem_of_getElem? (i := 534) (by decide +kernel))
theorem tm535 : Cond.codeWith ⟨"CreditLinksLaw", "forSender", "(LCreditLinks;I[J)I"⟩ method_10_code 4 (Option.some .int) [(0, 9, 12, 13)] ∈ lw_tbl := List.mem_append_right _ (List.mem_of_getElem? (i := 535) (by decide +kernel))
theorem tm536 : Cond.methodLink "CreditLinksLaw" 38 ⟨"CreditLinks", "forSender", "(I)I"⟩ ∈ lw_tbl := List.mem_append_right _ (List.mem_of_getElem? (i := 536) (by decide +kernel))
theorem tm537 : Cond.instanceMethod ⟨"CreditLinks", "forSender", "(I)I"⟩ ∈ lw_tbl := List.mem_append_right _ (List.mem_of_getElem? (i := 537) (by decide +kernel))
theorem tm538 : Cond.selects "CreditLinks" ⟨"CreditLinks", "forSender", "(I)I"⟩ ⟨"CreditLinks", "forSender", "(I)I"⟩ ∈ lw_tbl := List.mem_append_right _ (List.mem_of_getElem? (i := 538) (by decide +kernel))
theorem tm539 : Cond.code ⟨"CreditLinks", "forSender", "(I)I"⟩ prog_1_method_12_code 2 (Option.some .int) ∈ lw_tbl := List.mem_append_right _ (List.mem_of_getElem? (i := 539) (by decide +kernel))
theorem tm540 : Cond.methodLink "CreditLinksLaw" 114 ⟨"CreditLinksLaw", "heard", "(LCreditLinks;I[J)I"⟩ ∈ lw_tbl := List.mem_append_right _ (List.mem_of_getElem? (i := 540) (by decide +kernel))
theorem tm541 : Cond.static ⟨"CreditLinksLaw", "heard", "(LCreditLinks;I[J)I"⟩ ∈ lw_tbl := List.mem_append_right _ (List.mem_of_getElem? (i := 541) (by decide +kernel))
theorem tm542 : Cond.codeWith ⟨"CreditLinksLaw", "heard", "(LCreditLinks;I[J)I"⟩ method_11_code 4 (Option.some .int) [(0, 9, 12, 13)] ∈ lw_tbl := List.mem_append_right _ (List.mem_of_getElem? (i := 542) (by decide +kernel))
theorem tm543 : Cond.methodLink "CreditLinksLaw" 41 ⟨"CreditLinks", "heard", "(I)I"⟩ ∈ lw_tbl := List.mem_append_right _ (List.mem_of_getElem? (i := 543) (by decide +kernel))
theorem tm544 : Cond.instanceMethod ⟨"CreditLinks", "heard", "(I)I"⟩ ∈ lw_tbl := List.mem_append_right _ (List.mem_of_getElem? (i := 544) (by decide +kernel))
theorem tm545 : Cond.selects "CreditLinks" ⟨"CreditLinks", "heard", "(I)I"⟩ ⟨"CreditLinks", "heard", "(I)I"⟩ ∈ lw_tbl := List.mem_append_right _ (List.mem_of_getElem? (i := 545) (by decide +kernel))
theorem tm546 : Cond.code ⟨"CreditLinks", "heard", "(I)I"⟩ prog_1_method_13_code 2 (Option.some .int) ∈ lw_tbl := List.mem_append_right _ (List.mem_of_getElem? (i := 546) (by decide +kernel))
theorem tm547 : Cond.methodLink "CreditLinksLaw" 117 ⟨"CreditLinksLaw", "forReceiver", "(LCreditLinks;I[J)I"⟩ ∈ lw_tbl := List.mem_append_right _ (List.mem_of_getElem? (i := 547) (by decide +kernel))
theorem tm548 : Cond.static ⟨"CreditLinksLaw", "forReceiver", "(LCreditLinks;I[J)I"⟩ ∈ lw_tbl := List.mem_append_right _ (List.mem_of_getElem? (i := 548) (by decide +kernel))
theorem tm549 : Cond.codeWith ⟨"CreditLinksLaw", "forReceiver", "(LCreditLinks;I[J)I"⟩ method_12_code 4 (Option.some .int) [(0, 9, 12, 13)] ∈ lw_tbl := List.mem_append_right _ (List.mem_of_getElem? (i := 549) (by decide +kernel))
theorem tm550 : Cond.methodLink "CreditLinksLaw" 44 ⟨"CreditLinks", "forReceiver", "(I)I"⟩ ∈ lw_tbl := List.mem_append_right _ (List.mem_of_getElem? (i := 550) (by decide +kernel))
theorem tm551 : Cond.instanceMethod ⟨"CreditLinks", "forReceiver", "(I)I"⟩ ∈ lw_tbl := List.mem_append_right _ (List.mem_of_getElem? (i := 551) (by decide +kernel))
theorem tm552 : Cond.selects "CreditLinks" ⟨"CreditLinks", "forReceiver", "(I)I"⟩ ⟨"CreditLinks", "forReceiver", "(I)I"⟩ ∈ lw_tbl := List.mem_append_right _ (List.mem_of_getElem? (i := 552) (by decide +kernel))
theorem tm553 : Cond.code ⟨"CreditLinks", "forReceiver", "(I)I"⟩ prog_1_method_14_code 2 (Option.some .int) ∈ lw_tbl := List.mem_append_right _ (List.mem_of_getElem? (i := 553) (by decide +kernel))
theorem tm554 : Cond.methodLink "CreditLinksLaw" 120 ⟨"CreditLinksLaw", "effects", "(LCreditLinks;I[J)I"⟩ ∈ lw_tbl := List.mem_append_right _ (List.mem_of_getElem? (i := 554) (by decide +kernel))
theorem tm555 : Cond.static ⟨"CreditLinksLaw", "effects", "(LCreditLinks;I[J)I"⟩ ∈ lw_tbl := List.mem_append_right _ (List.mem_of_getElem? (i := 555) (by decide +kernel))
theorem tm556 : Cond.codeWith ⟨"CreditLinksLaw", "effects", "(LCreditLinks;I[J)I"⟩ method_13_code 4 (Option.some .int) [(0, 9, 12, 13)] ∈ lw_tbl := List.mem_append_right _ (List.mem_of_getElem? (i := 556) (by decide +kernel))
theorem tm557 : Cond.methodLink "CreditLinksLaw" 47 ⟨"CreditLinks", "effects", "(I)I"⟩ ∈ lw_tbl := List.mem_append_right _ (List.mem_of_getElem? (i := 557) (by decide +kernel))
theorem tm558 : Cond.instanceMethod ⟨"CreditLinks", "effects", "(I)I"⟩ ∈ lw_tbl := List.mem_append_right _ (List.mem_of_getElem? (i := 558) (by decide +kernel))
theorem tm559 : Cond.selects "CreditLinks" ⟨"CreditLinks", "effects", "(I)I"⟩ ⟨"CreditLinks", "effects", "(I)I"⟩ ∈ lw_tbl := List.mem_append_right _ (List.mem_of_getElem? (i := 559) (by decide +kernel))
theorem tm560 : Cond.code ⟨"CreditLinks", "effects", "(I)I"⟩ prog_1_method_15_code 2 (Option.some .int) ∈ lw_tbl := List.mem_append_right _ (List.mem_of_getElem? (i := 560) (by decide +kernel))
theorem tm561 : Cond.methodLink "CreditLinksLaw" 123 ⟨"CreditLinksLaw", "breakOff", "(LCreditLinks;[J)I"⟩ ∈ lw_tbl := List.mem_append_right _ (List.mem_of_getElem? (i := 561) (by decide +kernel))
theorem tm562 : Cond.static ⟨"CreditLinksLaw", "breakOff", "(LCreditLinks;[J)I"⟩ ∈ lw_tbl := List.mem_append_right _ (List.mem_of_getElem? (i := 562) (by decide +kernel))
theorem tm563 : Cond.codeWith ⟨"CreditLinksLaw", "breakOff", "(LCreditLinks;[J)I"⟩ method_14_code 3 (Option.some .int) [(0, 8, 11, 20)] ∈ lw_tbl := List.mem_append_right _ (List.mem_of_getElem? (i := 563) (by decide +kernel))
theorem tm564 : Cond.methodLink "CreditLinksLaw" 50 ⟨"CreditLinks", "breakOff", "()I"⟩ ∈ lw_tbl := List.mem_append_right _ (List.mem_of_getElem? (i := 564) (by decide +kernel))
theorem tm565 : Cond.instanceMethod ⟨"CreditLinks", "breakOff", "()I"⟩ ∈ lw_tbl := List.mem_append_right _ (List.mem_of_getElem? (i := 565) (by decide +kernel))
theorem tm566 : Cond.selects "CreditLinks" ⟨"CreditLinks", "breakOff", "()I"⟩ ⟨"CreditLinks", "breakOff", "()I"⟩ ∈ lw_tbl := List.mem_append_right _ (List.mem_of_getElem? (i := 566) (by decide +kernel))
theorem tm567 : Cond.code ⟨"CreditLinks", "breakOff", "()I"⟩ prog_1_method_16_code 2 (Option.some .int) ∈ lw_tbl := List.mem_append_right _ (List.mem_of_getElem? (i := 567) (by decide +kernel))
theorem tm568 : Cond.methodLink "CreditLinks" 151 ⟨"CreditLinks$Row", "drop", "()V"⟩ ∈ lw_tbl := List.mem_append_right _ (List.mem_of_getElem? (i := 568) (by decide +kernel))
theorem tm569 : Cond.instanceMethod ⟨"CreditLinks$Row", "drop", "()V"⟩ ∈ lw_tbl := List.mem_append_right _ (List.mem_of_getElem? (i := 569) (by decide +kernel))
theorem tm570 : Cond.selects "CreditLinks$Row" ⟨"CreditLinks$Row", "drop", "()V"⟩ ⟨"CreditLinks$Row", "drop", "()V"⟩ ∈ lw_tbl := List.mem_append_right _ (List.mem_of_getElem? (i := 570) (by decide +kernel))
theorem tm571 : Cond.code ⟨"CreditLinks$Row", "drop", "()V"⟩ prog_4_method_8_code 1 none ∈ lw_tbl := List.mem_append_right _ (List.mem_of_getElem? (i := 571) (by decide +kernel))
theorem tm572 : Cond.methodLink "CreditLinks" 154 ⟨"CreditLinks", "closeTransaction", "()V"⟩ ∈ lw_tbl := List.mem_append_right _ (List.mem_of_getElem? (i := 572) (by decide +kernel))
theorem tm574 : Cond.instanceMethod ⟨"CreditLinks", "closeTransaction", "()V"⟩ ∈ lw_tbl := List.mem_append_right _ (List.mem_of_getElem? (i := 574) (by decide +kernel))
theorem tm575 : Cond.code ⟨"CreditLinks", "closeTransaction", "()V"⟩ prog_1_method_35_code 2 none ∈ lw_tbl := List.mem_append_right _ (List.mem_of_getElem? (i := 575) (by decide +kernel))
theorem tm576 : Cond.methodLink "CreditLinks" 243 ⟨"java/util/ArrayList", "clear", "()V"⟩ ∈ lw_tbl := List.mem_append_right _ (List.mem_of_getElem? (i := 576) (by decide +kernel))
theorem tm577 : Cond.instanceMethod ⟨"java/util/ArrayList", "clear", "()V"⟩ ∈ lw_tbl := List.mem_append_right _ (List.mem_of_getElem? (i := 577) (by decide +kernel))
theorem tm578 : Cond.selects "java/util/ArrayList" ⟨"java/util/ArrayList", "clear", "()V"⟩ ⟨"java/util/ArrayList", "clear", "()V"⟩ ∈ lw_tbl := List.mem_append_right _ (List.mem_of_getElem? (i := 578) (by decide +kernel))
theorem tm579 : Cond.code ⟨"java/util/ArrayList", "clear", "()V"⟩ prog_21_method_40_code 4 none ∈ lw_tbl := List.mem_append_right _ (List.mem_of_getElem? (i := 579) (by decide +kernel))
theorem tm580 : Cond.methodLink "CreditLinksLaw" 127 ⟨"CreditLinksLaw", "join", "(LCreditLinks;[J)I"⟩ ∈ lw_tbl := List.mem_append_right _ (List.mem_of_getElem? (i := 580) (by decide +kernel))
theorem tm581 : Cond.static ⟨"CreditLinksLaw", "join", "(LCreditLinks;[J)I"⟩ ∈ lw_tbl := List.mem_append_right _ (List.mem_of_getElem? (i := 581) (by decide +kernel))
theorem tm582 : Cond.codeWith ⟨"CreditLinksLaw", "join", "(LCreditLinks;[J)I"⟩ method_15_code 3 (Option.some .int) [(0, 8, 11, 20)] ∈ lw_tbl := List.mem_append_right _ (List.mem_of_getElem? (i := 582) (by decide +kernel))
theorem tm583 : Cond.methodLink "CreditLinksLaw" 54 ⟨"CreditLinks", "join", "()I"⟩ ∈ lw_tbl := List.mem_append_right _ (List.mem_of_getElem? (i := 583) (by decide +kernel))
theorem tm584 : Cond.instanceMethod ⟨"CreditLinks", "join", "()I"⟩ ∈ lw_tbl := List.mem_append_right _ (List.mem_of_getElem? (i := 584) (by decide +kernel))
theorem tm585 : Cond.selects "CreditLinks" ⟨"CreditLinks", "join", "()I"⟩ ⟨"CreditLinks", "join", "()I"⟩ ∈ lw_tbl := List.mem_append_right _ (List.mem_of_getElem? (i := 585) (by decide +kernel))
theorem tm586 : Cond.code ⟨"CreditLinks", "join", "()I"⟩ prog_1_method_17_code 5 (Option.some .int) ∈ lw_tbl := List.mem_append_right _ (List.mem_of_getElem? (i := 586) (by decide +kernel))
theorem tm588 : Cond.methodLink "CreditLinks" 159 ⟨"CreditLinks$Link", "startAgain", "()V"⟩ ∈ lw_tbl := List.mem_append_right _ (List.mem_of_getElem? (i := 588) (by decide +kernel))
theorem tm589 : Cond.instanceMethod ⟨"CreditLinks$Link", "startAgain", "()V"⟩ ∈ lw_tbl := List.mem_append_right _ (List.mem_of_getElem? (i := 589) (by decide +kernel))
theorem tm590 : Cond.selects "CreditLinks$Link" ⟨"CreditLinks$Link", "startAgain", "()V"⟩ ⟨"CreditLinks$Link", "startAgain", "()V"⟩ ∈ lw_tbl := List.mem_append_right _ (List.mem_of_getElem? (i := 590) (by decide +kernel))
theorem tm591 : Cond.code ⟨"CreditLinks$Link", "startAgain", "()V"⟩ prog_3_method_5_code 1 none ∈ lw_tbl := List.mem_append_right _ (List.mem_of_getElem? (i := 591) (by decide +kernel))
theorem tm592 : Cond.methodLink "CreditLinks" 166 ⟨"CreditLinks$Delivery", "bringTogether", "()V"⟩ ∈ lw_tbl := List.mem_append_right _ (List.mem_of_getElem? (i := 592) (by decide +kernel))
theorem tm593 : Cond.instanceMethod ⟨"CreditLinks$Delivery", "bringTogether", "()V"⟩ ∈ lw_tbl := List.mem_append_right _ (List.mem_of_getElem? (i := 593) (by decide +kernel))
theorem tm594 : Cond.selects "CreditLinks$Delivery" ⟨"CreditLinks$Delivery", "bringTogether", "()V"⟩ ⟨"CreditLinks$Delivery", "bringTogether", "()V"⟩ ∈ lw_tbl := List.mem_append_right _ (List.mem_of_getElem? (i := 594) (by decide +kernel))
theorem tm595 : Cond.code ⟨"CreditLinks$Delivery", "bringTogether", "()V"⟩ prog_2_method_6_code 1 none ∈ lw_tbl := List.mem_append_right _ (List.mem_of_getElem? (i := 595) (by decide +kernel))
theorem tm596 : Cond.methodLink "CreditLinks$Delivery" 48 ⟨"CreditLinks$Delivery", "settle", "(I)Z"⟩ ∈ lw_tbl := List.mem_append_right _ (List.mem_of_getElem? (i := 596) (by decide +kernel))
theorem tm597 : Cond.methodLink "CreditLinksLaw" 139 ⟨"CreditLinksLaw", "begin", "(LCreditLinks;[J)I"⟩ ∈ lw_tbl := List.mem_append_right _ (List.mem_of_getElem? (i := 597) (by decide +kernel))
theorem tm598 : Cond.static ⟨"CreditLinksLaw", "begin", "(LCreditLinks;[J)I"⟩ ∈ lw_tbl := List.mem_append_right _ (List.mem_of_getElem? (i := 598) (by decide +kernel))
theorem tm599 : Cond.codeWith ⟨"CreditLinksLaw", "begin", "(LCreditLinks;[J)I"⟩ method_16_code 3 (Option.some .int) [(0, 8, 11, 20)] ∈ lw_tbl := List.mem_append_right _ (List.mem_of_getElem? (i := 599) (by decide +kernel))
theorem tm600 : Cond.methodLink "CreditLinksLaw" 57 ⟨"CreditLinks", "begin", "()I"⟩ ∈ lw_tbl := List.mem_append_right _ (List.mem_of_getElem? (i := 600) (by decide +kernel))
theorem tm601 : Cond.instanceMethod ⟨"CreditLinks", "begin", "()I"⟩ ∈ lw_tbl := List.mem_append_right _ (List.mem_of_getElem? (i := 601) (by decide +kernel))
theorem tm602 : Cond.selects "CreditLinks" ⟨"CreditLinks", "begin", "()I"⟩ ⟨"CreditLinks", "begin", "()I"⟩ ∈ lw_tbl := List.mem_append_right _ (List.mem_of_getElem? (i := 602) (by decide +kernel))
theorem tm603 : Cond.code ⟨"CreditLinks", "begin", "()I"⟩ prog_1_method_20_code 1 (Option.some .int) ∈ lw_tbl := List.mem_append_right _ (List.mem_of_getElem? (i := 603) (by decide +kernel))
theorem tm605 : Cond.methodLink "CreditLinksLaw" 142 ⟨"CreditLinksLaw", "tell", "(LCreditLinks;II[J)I"⟩ ∈ lw_tbl := List.mem_append_right _ (List.mem_of_getElem? (i := 605) (by decide +kernel))
theorem tm606 : Cond.static ⟨"CreditLinksLaw", "tell", "(LCreditLinks;II[J)I"⟩ ∈ lw_tbl := List.mem_append_right _ (List.mem_of_getElem? (i := 606) (by decide +kernel))
theorem tm607 : Cond.codeWith ⟨"CreditLinksLaw", "tell", "(LCreditLinks;II[J)I"⟩ method_17_code 5 (Option.some .int) [(0, 10, 13, 13), (0, 10, 17, 15), (0, 10, 21, 20)] ∈ lw_tbl := List.mem_append_right _ (List.mem_of_getElem? (i := 607) (by decide +kernel))
theorem tm608 : Cond.methodLink "CreditLinksLaw" 60 ⟨"CreditLinks", "tell", "(II)I"⟩ ∈ lw_tbl := List.mem_append_right _ (List.mem_of_getElem? (i := 608) (by decide +kernel))
theorem tm609 : Cond.instanceMethod ⟨"CreditLinks", "tell", "(II)I"⟩ ∈ lw_tbl := List.mem_append_right _ (List.mem_of_getElem? (i := 609) (by decide +kernel))
theorem tm610 : Cond.selects "CreditLinks" ⟨"CreditLinks", "tell", "(II)I"⟩ ⟨"CreditLinks", "tell", "(II)I"⟩ ∈ lw_tbl := List.mem_append_right _ (List.mem_of_getElem? (i := 610) (by decide +kernel))
theorem tm611 : Cond.code ⟨"CreditLinks", "tell", "(II)I"⟩ prog_1_method_21_code 4 (Option.some .int) ∈ lw_tbl := List.mem_append_right _ (List.mem_of_getElem? (i := 611) (by decide +kernel))
theorem tm612 : Cond.methodLink "CreditLinks" 174 ⟨"CreditLinks", "requireTransaction", "()V"⟩ ∈ lw_tbl := List.mem_append_right _ (List.mem_of_getElem? (i := 612) (by decide +kernel))
theorem tm614 : Cond.instanceMethod ⟨"CreditLinks", "requireTransaction", "()V"⟩ ∈ lw_tbl := List.mem_append_right _ (List.mem_of_getElem? (i := 614) (by decide +kernel))
theorem tm615 : Cond.code ⟨"CreditLinks", "requireTransaction", "()V"⟩ prog_1_method_26_code 1 none ∈ lw_tbl := List.mem_append_right _ (List.mem_of_getElem? (i := 615) (by decide +kernel))
theorem tm617 : Cond.methodLink "CreditLinksLaw" 145 ⟨"CreditLinksLaw", "end", "(LCreditLinks;Z[J)I"⟩ ∈ lw_tbl := List.mem_append_right _ (List.mem_of_getElem? (i := 617) (by decide +kernel))
theorem tm618 : Cond.static ⟨"CreditLinksLaw", "end", "(LCreditLinks;Z[J)I"⟩ ∈ lw_tbl := List.mem_append_right _ (List.mem_of_getElem? (i := 618) (by decide +kernel))
theorem tm619 : Cond.codeWith ⟨"CreditLinksLaw", "end", "(LCreditLinks;Z[J)I"⟩ method_18_code 4 (Option.some .int) [(0, 9, 12, 20)] ∈ lw_tbl := List.mem_append_right _ (List.mem_of_getElem? (i := 619) (by decide +kernel))
theorem tm620 : Cond.methodLink "CreditLinksLaw" 63 ⟨"CreditLinks", "end", "(Z)I"⟩ ∈ lw_tbl := List.mem_append_right _ (List.mem_of_getElem? (i := 620) (by decide +kernel))
theorem tm621 : Cond.instanceMethod ⟨"CreditLinks", "end", "(Z)I"⟩ ∈ lw_tbl := List.mem_append_right _ (List.mem_of_getElem? (i := 621) (by decide +kernel))
theorem tm622 : Cond.selects "CreditLinks" ⟨"CreditLinks", "end", "(Z)I"⟩ ⟨"CreditLinks", "end", "(Z)I"⟩ ∈ lw_tbl := List.mem_append_right _ (List.mem_of_getElem? (i := 622) (by decide +kernel))
theorem tm623 : Cond.code ⟨"CreditLinks", "end", "(Z)I"⟩ prog_1_method_22_code 5 (Option.some .int) ∈ lw_tbl := List.mem_append_right _ (List.mem_of_getElem? (i := 623) (by decide +kernel))
theorem tm624 : Cond.classLink "CreditLinksLaw" 68 "CreditLinksModel" ∈ lw_tbl := List.mem_append_right _ (List.mem_of_getElem? (i := 624) (by decide +kernel))
theorem tm625 : Cond.instantiable "CreditLinksModel" 28 ∈ lw_tbl := List.mem_append_right _ (List.mem_of_getElem? (i := 625) (by decide +kernel))
theorem tm626 : Cond.methodLink "CreditLinksLaw" 70 ⟨"CreditLinksModel", "<init>", "()V"⟩ ∈ lw_tbl := List.mem_append_right _ (List.mem_of_getElem? (i := 626) (by decide +kernel))
theorem tm627 : Cond.instanceMethod ⟨"CreditLinksModel", "<init>", "()V"⟩ ∈ lw_tbl := List.mem_append_right _ (List.mem_of_getElem? (i := 627) (by decide +kernel))
theorem tm628 : Cond.code ⟨"CreditLinksModel", "<init>", "()V"⟩ prog_6_method_1_code 1 none ∈ lw_tbl := List.mem_append_right _ (List.mem_of_getElem? (i := 628) (by decide +kernel))
theorem tm629 : Cond.methodLink "CreditLinksModel" 1 ⟨"java/lang/Object", "<init>", "()V"⟩ ∈ lw_tbl := List.mem_append_right _ (List.mem_of_getElem? (i := 629) (by decide +kernel))
theorem tm630 : Cond.fieldLink "CreditLinksModel" 7 "CreditLinksModel" "mode" "[I" ∈ lw_tbl := List.mem_append_right _ (List.mem_of_getElem? (i := 630) (by decide +kernel))
theorem tm631 : Cond.fieldLink "CreditLinksModel" 13 "CreditLinksModel" "sent" "[I" ∈ lw_tbl := List.mem_append_right _ (List.mem_of_getElem? (i := 631) (by decide +kernel))
theorem tm632 : Cond.fieldLink "CreditLinksModel" 16 "CreditLinksModel" "limit" "[I" ∈ lw_tbl := List.mem_append_right _ (List.mem_of_getElem? (i := 632) (by decide +kernel))
theorem tm633 : Cond.fieldLink "CreditLinksModel" 19 "CreditLinksModel" "come" "[I" ∈ lw_tbl := List.mem_append_right _ (List.mem_of_getElem? (i := 633) (by decide +kernel))
theorem tm634 : Cond.fieldLink "CreditLinksModel" 22 "CreditLinksModel" "linkOf" "[I" ∈ lw_tbl := List.mem_append_right _ (List.mem_of_getElem? (i := 634) (by decide +kernel))
theorem tm635 : Cond.fieldLink "CreditLinksModel" 25 "CreditLinksModel" "modeOf" "[I" ∈ lw_tbl := List.mem_append_right _ (List.mem_of_getElem? (i := 635) (by decide +kernel))
theorem tm636 : Cond.fieldLink "CreditLinksModel" 28 "CreditLinksModel" "frames" "[I" ∈ lw_tbl := List.mem_append_right _ (List.mem_of_getElem? (i := 636) (by decide +kernel))
theorem tm637 : Cond.fieldLink "CreditLinksModel" 31 "CreditLinksModel" "sender" "[I" ∈ lw_tbl := List.mem_append_right _ (List.mem_of_getElem? (i := 637) (by decide +kernel))
theorem tm638 : Cond.fieldLink "CreditLinksModel" 34 "CreditLinksModel" "heard" "[I" ∈ lw_tbl := List.mem_append_right _ (List.mem_of_getElem? (i := 638) (by decide +kernel))
theorem tm639 : Cond.fieldLink "CreditLinksModel" 37 "CreditLinksModel" "receiver" "[I" ∈ lw_tbl := List.mem_append_right _ (List.mem_of_getElem? (i := 639) (by decide +kernel))
theorem tm640 : Cond.fieldLink "CreditLinksModel" 40 "CreditLinksModel" "parts" "[I" ∈ lw_tbl := List.mem_append_right _ (List.mem_of_getElem? (i := 640) (by decide +kernel))
theorem tm641 : Cond.fieldLink "CreditLinksModel" 43 "CreditLinksModel" "again" "[Z" ∈ lw_tbl := List.mem_append_right _ (List.mem_of_getElem? (i := 641) (by decide +kernel))
theorem tm642 : Cond.fieldLink "CreditLinksModel" 47 "CreditLinksModel" "outcome" "[I" ∈ lw_tbl := List.mem_append_right _ (List.mem_of_getElem? (i := 642) (by decide +kernel))
theorem tm643 : Cond.fieldLink "CreditLinksModel" 50 "CreditLinksModel" "effects" "[I" ∈ lw_tbl := List.mem_append_right _ (List.mem_of_getElem? (i := 643) (by decide +kernel))
theorem tm644 : Cond.fieldLink "CreditLinksModel" 53 "CreditLinksModel" "waits" "[I" ∈ lw_tbl := List.mem_append_right _ (List.mem_of_getElem? (i := 644) (by decide +kernel))
theorem tm645 : Cond.fieldLink "CreditLinksModel" 77 "CreditLinksModel" "deliveries" "I" ∈ lw_tbl := List.mem_append_right _ (List.mem_of_getElem? (i := 645) (by decide +kernel))
theorem tm646 : Cond.fieldLink "CreditLinksModel" 56 "CreditLinksModel" "there" "[I" ∈ lw_tbl := List.mem_append_right _ (List.mem_of_getElem? (i := 646) (by decide +kernel))
theorem tm647 : Cond.fieldLink "CreditLinksModel" 115 "CreditLinksModel" "thereFrom" "I" ∈ lw_tbl := List.mem_append_right _ (List.mem_of_getElem? (i := 647) (by decide +kernel))
theorem tm648 : Cond.fieldLink "CreditLinksModel" 80 "CreditLinksModel" "thereTo" "I" ∈ lw_tbl := List.mem_append_right _ (List.mem_of_getElem? (i := 648) (by decide +kernel))
theorem tm649 : Cond.fieldLink "CreditLinksModel" 59 "CreditLinksModel" "back" "[I" ∈ lw_tbl := List.mem_append_right _ (List.mem_of_getElem? (i := 649) (by decide +kernel))
theorem tm650 : Cond.fieldLink "CreditLinksModel" 122 "CreditLinksModel" "backFrom" "I" ∈ lw_tbl := List.mem_append_right _ (List.mem_of_getElem? (i := 650) (by decide +kernel))
theorem tm651 : Cond.fieldLink "CreditLinksModel" 83 "CreditLinksModel" "backTo" "I" ∈ lw_tbl := List.mem_append_right _ (List.mem_of_getElem? (i := 651) (by decide +kernel))
theorem tm652 : Cond.fieldLink "CreditLinksModel" 62 "CreditLinksModel" "up" "Z" ∈ lw_tbl := List.mem_append_right _ (List.mem_of_getElem? (i := 652) (by decide +kernel))
theorem tm653 : Cond.fieldLink "CreditLinksModel" 137 "CreditLinksModel" "open" "Z" ∈ lw_tbl := List.mem_append_right _ (List.mem_of_getElem? (i := 653) (by decide +kernel))
theorem tm654 : Cond.fieldLink "CreditLinksModel" 146 "CreditLinksModel" "transactions" "I" ∈ lw_tbl := List.mem_append_right _ (List.mem_of_getElem? (i := 654) (by decide +kernel))
theorem tm655 : Cond.fieldLink "CreditLinksModel" 66 "CreditLinksModel" "told" "[I" ∈ lw_tbl := List.mem_append_right _ (List.mem_of_getElem? (i := 655) (by decide +kernel))
theorem tm656 : Cond.fieldLink "CreditLinksModel" 134 "CreditLinksModel" "tolds" "I" ∈ lw_tbl := List.mem_append_right _ (List.mem_of_getElem? (i := 656) (by decide +kernel))
theorem tm657 : Cond.fieldLink "CreditLinksModel" 69 "CreditLinksModel" "thrown" "I" ∈ lw_tbl := List.mem_append_right _ (List.mem_of_getElem? (i := 657) (by decide +kernel))
theorem tm715 : Cond.arrayClass .boolean ∈ lw_tbl := List.mem_append_right _ (List.mem_of_getElem? (i := 715) (by decide +kernel))
theorem tm716 : Cond.methodLink "CreditLinksLaw" 77 ⟨"CreditLinksModel", "thrown", "()I"⟩ ∈ lw_tbl := List.mem_append_right _ (List.mem_of_getElem? (i := 716) (by decide +kernel))
theorem tm717 : Cond.instanceMethod ⟨"CreditLinksModel", "thrown", "()I"⟩ ∈ lw_tbl := List.mem_append_right _ (List.mem_of_getElem? (i := 717) (by decide +kernel))
theorem tm718 : Cond.selects "CreditLinksModel" ⟨"CreditLinksModel", "thrown", "()I"⟩ ⟨"CreditLinksModel", "thrown", "()I"⟩ ∈ lw_tbl := List.mem_append_right _ (List.mem_of_getElem? (i := 718) (by decide +kernel))
theorem tm719 : Cond.code ⟨"CreditLinksModel", "thrown", "()I"⟩ prog_6_method_2_code 1 (Option.some .int) ∈ lw_tbl := List.mem_append_right _ (List.mem_of_getElem? (i := 719) (by decide +kernel))
theorem tm720 : Cond.methodLink "CreditLinksLaw" 76 ⟨"CreditLinksModel", "setMode", "(II)I"⟩ ∈ lw_tbl := List.mem_append_right _ (List.mem_of_getElem? (i := 720) (by decide +kernel))
theorem tm721 : Cond.instanceMethod ⟨"CreditLinksModel", "setMode", "(II)I"⟩ ∈ lw_tbl := List.mem_append_right _ (List.mem_of_getElem? (i := 721) (by decide +kernel))
theorem tm722 : Cond.selects "CreditLinksModel" ⟨"CreditLinksModel", "setMode", "(II)I"⟩ ⟨"CreditLinksModel", "setMode", "(II)I"⟩ ∈ lw_tbl := List.mem_append_right _ (List.mem_of_getElem? (i := 722) (by decide +kernel))
theorem tm723 : Cond.code ⟨"CreditLinksModel", "setMode", "(II)I"⟩ prog_6_method_12_code 4 (Option.some .int) ∈ lw_tbl := List.mem_append_right _ (List.mem_of_getElem? (i := 723) (by decide +kernel))
theorem tm724 : Cond.methodLink "CreditLinksModel" 86 ⟨"CreditLinksModel", "isLink", "(I)Z"⟩ ∈ lw_tbl := List.mem_append_right _ (List.mem_of_getElem? (i := 724) (by decide +kernel))
theorem tm725 : Cond.static ⟨"CreditLinksModel", "isLink", "(I)Z"⟩ ∈ lw_tbl := List.mem_append_right _ (List.mem_of_getElem? (i := 725) (by decide +kernel))
theorem tm726 : Cond.code ⟨"CreditLinksModel", "isLink", "(I)Z"⟩ prog_6_method_8_code 1 (Option.some .boolean) ∈ lw_tbl := List.mem_append_right _ (List.mem_of_getElem? (i := 726) (by decide +kernel))
theorem tm727 : Cond.methodLink "CreditLinksModel" 73 ⟨"CreditLinksModel", "in", "(III)Z"⟩ ∈ lw_tbl := List.mem_append_right _ (List.mem_of_getElem? (i := 727) (by decide +kernel))
theorem tm728 : Cond.static ⟨"CreditLinksModel", "in", "(III)Z"⟩ ∈ lw_tbl := List.mem_append_right _ (List.mem_of_getElem? (i := 728) (by decide +kernel))
theorem tm729 : Cond.code ⟨"CreditLinksModel", "in", "(III)Z"⟩ prog_6_method_3_code 3 (Option.some .boolean) ∈ lw_tbl := List.mem_append_right _ (List.mem_of_getElem? (i := 729) (by decide +kernel))
theorem tm730 : Cond.methodLink "CreditLinksModel" 90 ⟨"CreditLinksModel", "asked", "(ZZ)Z"⟩ ∈ lw_tbl := List.mem_append_right _ (List.mem_of_getElem? (i := 730) (by decide +kernel))
theorem tm732 : Cond.instanceMethod ⟨"CreditLinksModel", "asked", "(ZZ)Z"⟩ ∈ lw_tbl := List.mem_append_right _ (List.mem_of_getElem? (i := 732) (by decide +kernel))
theorem tm733 : Cond.code ⟨"CreditLinksModel", "asked", "(ZZ)Z"⟩ prog_6_method_5_code 3 (Option.some .boolean) ∈ lw_tbl := List.mem_append_right _ (List.mem_of_getElem? (i := 733) (by decide +kernel))
theorem tm734 : Cond.methodLink "CreditLinksLaw" 82 ⟨"CreditLinksModel", "grant", "(II)I"⟩ ∈ lw_tbl := List.mem_append_right _ (List.mem_of_getElem? (i := 734) (by decide +kernel))
theorem tm735 : Cond.instanceMethod ⟨"CreditLinksModel", "grant", "(II)I"⟩ ∈ lw_tbl := List.mem_append_right _ (List.mem_of_getElem? (i := 735) (by decide +kernel))
theorem tm736 : Cond.selects "CreditLinksModel" ⟨"CreditLinksModel", "grant", "(II)I"⟩ ⟨"CreditLinksModel", "grant", "(II)I"⟩ ∈ lw_tbl := List.mem_append_right _ (List.mem_of_getElem? (i := 736) (by decide +kernel))
theorem tm737 : Cond.code ⟨"CreditLinksModel", "grant", "(II)I"⟩ prog_6_method_13_code 4 (Option.some .int) ∈ lw_tbl := List.mem_append_right _ (List.mem_of_getElem? (i := 737) (by decide +kernel))
theorem tm738 : Cond.methodLink "CreditLinksModel" 94 ⟨"CreditLinksModel", "asked", "(ZZZ)Z"⟩ ∈ lw_tbl := List.mem_append_right _ (List.mem_of_getElem? (i := 738) (by decide +kernel))
theorem tm740 : Cond.instanceMethod ⟨"CreditLinksModel", "asked", "(ZZZ)Z"⟩ ∈ lw_tbl := List.mem_append_right _ (List.mem_of_getElem? (i := 740) (by decide +kernel))
theorem tm741 : Cond.code ⟨"CreditLinksModel", "asked", "(ZZZ)Z"⟩ prog_6_method_6_code 4 (Option.some .boolean) ∈ lw_tbl := List.mem_append_right _ (List.mem_of_getElem? (i := 741) (by decide +kernel))
theorem tm742 : Cond.methodLink "CreditLinksModel" 97 ⟨"CreditLinksModel", "returns", "(I)V"⟩ ∈ lw_tbl := List.mem_append_right _ (List.mem_of_getElem? (i := 742) (by decide +kernel))
theorem tm744 : Cond.instanceMethod ⟨"CreditLinksModel", "returns", "(I)V"⟩ ∈ lw_tbl := List.mem_append_right _ (List.mem_of_getElem? (i := 744) (by decide +kernel))
theorem tm745 : Cond.code ⟨"CreditLinksModel", "returns", "(I)V"⟩ prog_6_method_11_code 2 none ∈ lw_tbl := List.mem_append_right _ (List.mem_of_getElem? (i := 745) (by decide +kernel))
theorem tm746 : Cond.methodLink "CreditLinksLaw" 86 ⟨"CreditLinksModel", "credit", "(I)I"⟩ ∈ lw_tbl := List.mem_append_right _ (List.mem_of_getElem? (i := 746) (by decide +kernel))
theorem tm747 : Cond.instanceMethod ⟨"CreditLinksModel", "credit", "(I)I"⟩ ∈ lw_tbl := List.mem_append_right _ (List.mem_of_getElem? (i := 747) (by decide +kernel))
theorem tm748 : Cond.selects "CreditLinksModel" ⟨"CreditLinksModel", "credit", "(I)I"⟩ ⟨"CreditLinksModel", "credit", "(I)I"⟩ ∈ lw_tbl := List.mem_append_right _ (List.mem_of_getElem? (i := 748) (by decide +kernel))
theorem tm749 : Cond.code ⟨"CreditLinksModel", "credit", "(I)I"⟩ prog_6_method_15_code 2 (Option.some .int) ∈ lw_tbl := List.mem_append_right _ (List.mem_of_getElem? (i := 749) (by decide +kernel))
theorem tm750 : Cond.methodLink "CreditLinksModel" 101 ⟨"CreditLinksModel", "asked", "(Z)Z"⟩ ∈ lw_tbl := List.mem_append_right _ (List.mem_of_getElem? (i := 750) (by decide +kernel))
theorem tm752 : Cond.instanceMethod ⟨"CreditLinksModel", "asked", "(Z)Z"⟩ ∈ lw_tbl := List.mem_append_right _ (List.mem_of_getElem? (i := 752) (by decide +kernel))
theorem tm753 : Cond.code ⟨"CreditLinksModel", "asked", "(Z)Z"⟩ prog_6_method_4_code 2 (Option.some .boolean) ∈ lw_tbl := List.mem_append_right _ (List.mem_of_getElem? (i := 753) (by decide +kernel))
theorem tm754 : Cond.methodLink "CreditLinksModel" 104 ⟨"CreditLinksModel", "creditOf", "(I)I"⟩ ∈ lw_tbl := List.mem_append_right _ (List.mem_of_getElem? (i := 754) (by decide +kernel))
theorem tm756 : Cond.instanceMethod ⟨"CreditLinksModel", "creditOf", "(I)I"⟩ ∈ lw_tbl := List.mem_append_right _ (List.mem_of_getElem? (i := 756) (by decide +kernel))
theorem tm757 : Cond.code ⟨"CreditLinksModel", "creditOf", "(I)I"⟩ prog_6_method_14_code 2 (Option.some .int) ∈ lw_tbl := List.mem_append_right _ (List.mem_of_getElem? (i := 757) (by decide +kernel))
theorem tm758 : Cond.methodLink "CreditLinksLaw" 89 ⟨"CreditLinksModel", "send", "(II)I"⟩ ∈ lw_tbl := List.mem_append_right _ (List.mem_of_getElem? (i := 758) (by decide +kernel))
theorem tm759 : Cond.instanceMethod ⟨"CreditLinksModel", "send", "(II)I"⟩ ∈ lw_tbl := List.mem_append_right _ (List.mem_of_getElem? (i := 759) (by decide +kernel))
theorem tm760 : Cond.selects "CreditLinksModel" ⟨"CreditLinksModel", "send", "(II)I"⟩ ⟨"CreditLinksModel", "send", "(II)I"⟩ ∈ lw_tbl := List.mem_append_right _ (List.mem_of_getElem? (i := 760) (by decide +kernel))
theorem tm761 : Cond.code ⟨"CreditLinksModel", "send", "(II)I"⟩ prog_6_method_17_code 5 (Option.some .int) ∈ lw_tbl := List.mem_append_right _ (List.mem_of_getElem? (i := 761) (by decide +kernel))
theorem tm762 : Cond.methodLink "CreditLinksModel" 111 ⟨"CreditLinksModel", "sends", "(II)V"⟩ ∈ lw_tbl := List.mem_append_right _ (List.mem_of_getElem? (i := 762) (by decide +kernel))
theorem tm764 : Cond.instanceMethod ⟨"CreditLinksModel", "sends", "(II)V"⟩ ∈ lw_tbl := List.mem_append_right _ (List.mem_of_getElem? (i := 764) (by decide +kernel))
theorem tm765 : Cond.code ⟨"CreditLinksModel", "sends", "(II)V"⟩ prog_6_method_16_code 4 none ∈ lw_tbl := List.mem_append_right _ (List.mem_of_getElem? (i := 765) (by decide +kernel))
theorem tm766 : Cond.methodLink "CreditLinksModel" 108 ⟨"CreditLinksModel", "goes", "(I)V"⟩ ∈ lw_tbl := List.mem_append_right _ (List.mem_of_getElem? (i := 766) (by decide +kernel))
theorem tm768 : Cond.instanceMethod ⟨"CreditLinksModel", "goes", "(I)V"⟩ ∈ lw_tbl := List.mem_append_right _ (List.mem_of_getElem? (i := 768) (by decide +kernel))
theorem tm769 : Cond.code ⟨"CreditLinksModel", "goes", "(I)V"⟩ prog_6_method_10_code 2 none ∈ lw_tbl := List.mem_append_right _ (List.mem_of_getElem? (i := 769) (by decide +kernel))
theorem tm770 : Cond.methodLink "CreditLinksLaw" 92 ⟨"CreditLinksModel", "toReceiver", "(I)I"⟩ ∈ lw_tbl := List.mem_append_right _ (List.mem_of_getElem? (i := 770) (by decide +kernel))
theorem tm771 : Cond.instanceMethod ⟨"CreditLinksModel", "toReceiver", "(I)I"⟩ ∈ lw_tbl := List.mem_append_right _ (List.mem_of_getElem? (i := 771) (by decide +kernel))
theorem tm772 : Cond.selects "CreditLinksModel" ⟨"CreditLinksModel", "toReceiver", "(I)I"⟩ ⟨"CreditLinksModel", "toReceiver", "(I)I"⟩ ∈ lw_tbl := List.mem_append_right _ (List.mem_of_getElem? (i := 772) (by decide +kernel))
theorem tm773 : Cond.code ⟨"CreditLinksModel", "toReceiver", "(I)I"⟩ prog_6_method_19_code 6 (Option.some .int) ∈ lw_tbl := List.mem_append_right _ (List.mem_of_getElem? (i := 773) (by decide +kernel))
theorem tm774 : Cond.methodLink "CreditLinksModel" 118 ⟨"CreditLinksModel", "comes", "(IIZ)Z"⟩ ∈ lw_tbl := List.mem_append_right _ (List.mem_of_getElem? (i := 774) (by decide +kernel))
theorem tm776 : Cond.instanceMethod ⟨"CreditLinksModel", "comes", "(IIZ)Z"⟩ ∈ lw_tbl := List.mem_append_right _ (List.mem_of_getElem? (i := 776) (by decide +kernel))
theorem tm777 : Cond.code ⟨"CreditLinksModel", "comes", "(IIZ)Z"⟩ prog_6_method_18_code 6 (Option.some .boolean) ∈ lw_tbl := List.mem_append_right _ (List.mem_of_getElem? (i := 777) (by decide +kernel))
theorem tm778 : Cond.methodLink "CreditLinksLaw" 95 ⟨"CreditLinksModel", "toSender", "(I)I"⟩ ∈ lw_tbl := List.mem_append_right _ (List.mem_of_getElem? (i := 778) (by decide +kernel))
theorem tm779 : Cond.instanceMethod ⟨"CreditLinksModel", "toSender", "(I)I"⟩ ∈ lw_tbl := List.mem_append_right _ (List.mem_of_getElem? (i := 779) (by decide +kernel))
theorem tm780 : Cond.selects "CreditLinksModel" ⟨"CreditLinksModel", "toSender", "(I)I"⟩ ⟨"CreditLinksModel", "toSender", "(I)I"⟩ ∈ lw_tbl := List.mem_append_right _ (List.mem_of_getElem? (i := 780) (by decide +kernel))
theorem tm781 : Cond.code ⟨"CreditLinksModel", "toSender", "(I)I"⟩ prog_6_method_20_code 6 (Option.some .int) ∈ lw_tbl := List.mem_append_right _ (List.mem_of_getElem? (i := 781) (by decide +kernel))
theorem tm782 : Cond.methodLink "CreditLinksLaw" 98 ⟨"CreditLinksModel", "decide", "(II)I"⟩ ∈ lw_tbl := List.mem_append_right _ (List.mem_of_getElem? (i := 782) (by decide +kernel))
theorem tm783 : Cond.instanceMethod ⟨"CreditLinksModel", "decide", "(II)I"⟩ ∈ lw_tbl := List.mem_append_right _ (List.mem_of_getElem? (i := 783) (by decide +kernel))
theorem tm784 : Cond.selects "CreditLinksModel" ⟨"CreditLinksModel", "decide", "(II)I"⟩ ⟨"CreditLinksModel", "decide", "(II)I"⟩ ∈ lw_tbl := List.mem_append_right _ (List.mem_of_getElem? (i := 784) (by decide +kernel))
theorem tm785 : Cond.code ⟨"CreditLinksModel", "decide", "(II)I"⟩ prog_6_method_22_code 4 (Option.some .int) ∈ lw_tbl := List.mem_append_right _ (List.mem_of_getElem? (i := 785) (by decide +kernel))
theorem tm786 : Cond.methodLink "CreditLinksModel" 125 ⟨"CreditLinksModel", "isDelivery", "(I)Z"⟩ ∈ lw_tbl := List.mem_append_right _ (List.mem_of_getElem? (i := 786) (by decide +kernel))
theorem tm788 : Cond.instanceMethod ⟨"CreditLinksModel", "isDelivery", "(I)Z"⟩ ∈ lw_tbl := List.mem_append_right _ (List.mem_of_getElem? (i := 788) (by decide +kernel))
theorem tm789 : Cond.code ⟨"CreditLinksModel", "isDelivery", "(I)Z"⟩ prog_6_method_9_code 2 (Option.some .boolean) ∈ lw_tbl := List.mem_append_right _ (List.mem_of_getElem? (i := 789) (by decide +kernel))
theorem tm790 : Cond.methodLink "CreditLinksModel" 128 ⟨"CreditLinksModel", "decides", "(II)V"⟩ ∈ lw_tbl := List.mem_append_right _ (List.mem_of_getElem? (i := 790) (by decide +kernel))
theorem tm792 : Cond.instanceMethod ⟨"CreditLinksModel", "decides", "(II)V"⟩ ∈ lw_tbl := List.mem_append_right _ (List.mem_of_getElem? (i := 792) (by decide +kernel))
theorem tm793 : Cond.code ⟨"CreditLinksModel", "decides", "(II)V"⟩ prog_6_method_21_code 3 none ∈ lw_tbl := List.mem_append_right _ (List.mem_of_getElem? (i := 793) (by decide +kernel))
theorem tm794 : Cond.methodLink "CreditLinksLaw" 102 ⟨"CreditLinksModel", "deliveries", "()I"⟩ ∈ lw_tbl := List.mem_append_right _ (List.mem_of_getElem? (i := 794) (by decide +kernel))
theorem tm795 : Cond.instanceMethod ⟨"CreditLinksModel", "deliveries", "()I"⟩ ∈ lw_tbl := List.mem_append_right _ (List.mem_of_getElem? (i := 795) (by decide +kernel))
theorem tm796 : Cond.selects "CreditLinksModel" ⟨"CreditLinksModel", "deliveries", "()I"⟩ ⟨"CreditLinksModel", "deliveries", "()I"⟩ ∈ lw_tbl := List.mem_append_right _ (List.mem_of_getElem? (i := 796) (by decide +kernel))
theorem tm797 : Cond.code ⟨"CreditLinksModel", "deliveries", "()I"⟩ prog_6_method_23_code 1 (Option.some .int) ∈ lw_tbl := List.mem_append_right _ (List.mem_of_getElem? (i := 797) (by decide +kernel))
theorem tm798 : Cond.methodLink "CreditLinksModel" 131 ⟨"CreditLinksModel", "tells", "(I)I"⟩ ∈ lw_tbl := List.mem_append_right _ (List.mem_of_getElem? (i := 798) (by decide +kernel))
theorem tm800 : Cond.instanceMethod ⟨"CreditLinksModel", "tells", "(I)I"⟩ ∈ lw_tbl := List.mem_append_right _ (List.mem_of_getElem? (i := 800) (by decide +kernel))
theorem tm801 : Cond.code ⟨"CreditLinksModel", "tells", "(I)I"⟩ prog_6_method_7_code 2 (Option.some .int) ∈ lw_tbl := List.mem_append_right _ (List.mem_of_getElem? (i := 801) (by decide +kernel))
theorem tm802 : Cond.methodLink "CreditLinksLaw" 106 ⟨"CreditLinksModel", "underWay", "()I"⟩ ∈ lw_tbl := List.mem_append_right _ (List.mem_of_getElem? (i := 802) (by decide +kernel))
theorem tm803 : Cond.instanceMethod ⟨"CreditLinksModel", "underWay", "()I"⟩ ∈ lw_tbl := List.mem_append_right _ (List.mem_of_getElem? (i := 803) (by decide +kernel))
theorem tm804 : Cond.selects "CreditLinksModel" ⟨"CreditLinksModel", "underWay", "()I"⟩ ⟨"CreditLinksModel", "underWay", "()I"⟩ ∈ lw_tbl := List.mem_append_right _ (List.mem_of_getElem? (i := 804) (by decide +kernel))
theorem tm805 : Cond.code ⟨"CreditLinksModel", "underWay", "()I"⟩ prog_6_method_24_code 1 (Option.some .int) ∈ lw_tbl := List.mem_append_right _ (List.mem_of_getElem? (i := 805) (by decide +kernel))
theorem tm806 : Cond.methodLink "CreditLinksLaw" 110 ⟨"CreditLinksModel", "backUnderWay", "()I"⟩ ∈ lw_tbl := List.mem_append_right _ (List.mem_of_getElem? (i := 806) (by decide +kernel))
theorem tm807 : Cond.instanceMethod ⟨"CreditLinksModel", "backUnderWay", "()I"⟩ ∈ lw_tbl := List.mem_append_right _ (List.mem_of_getElem? (i := 807) (by decide +kernel))
theorem tm808 : Cond.selects "CreditLinksModel" ⟨"CreditLinksModel", "backUnderWay", "()I"⟩ ⟨"CreditLinksModel", "backUnderWay", "()I"⟩ ∈ lw_tbl := List.mem_append_right _ (List.mem_of_getElem? (i := 808) (by decide +kernel))
theorem tm809 : Cond.code ⟨"CreditLinksModel", "backUnderWay", "()I"⟩ prog_6_method_25_code 1 (Option.some .int) ∈ lw_tbl := List.mem_append_right _ (List.mem_of_getElem? (i := 809) (by decide +kernel))
theorem tm810 : Cond.methodLink "CreditLinksLaw" 113 ⟨"CreditLinksModel", "forSender", "(I)I"⟩ ∈ lw_tbl := List.mem_append_right _ (List.mem_of_getElem? (i := 810) (by decide +kernel))
theorem tm811 : Cond.instanceMethod ⟨"CreditLinksModel", "forSender", "(I)I"⟩ ∈ lw_tbl := List.mem_append_right _ (List.mem_of_getElem? (i := 811) (by decide +kernel))
theorem tm812 : Cond.selects "CreditLinksModel" ⟨"CreditLinksModel", "forSender", "(I)I"⟩ ⟨"CreditLinksModel", "forSender", "(I)I"⟩ ∈ lw_tbl := List.mem_append_right _ (List.mem_of_getElem? (i := 812) (by decide +kernel))
theorem tm813 : Cond.code ⟨"CreditLinksModel", "forSender", "(I)I"⟩ prog_6_method_26_code 2 (Option.some .int) ∈ lw_tbl := List.mem_append_right _ (List.mem_of_getElem? (i := 813) (by decide +kernel))
theorem tm814 : Cond.methodLink "CreditLinksLaw" 116 ⟨"CreditLinksModel", "heard", "(I)I"⟩ ∈ lw_tbl := List.mem_append_right _ (List.mem_of_getElem? (i := 814) (by decide +kernel))
theorem tm815 : Cond.instanceMethod ⟨"CreditLinksModel", "heard", "(I)I"⟩ ∈ lw_tbl := List.mem_append_right _ (List.mem_of_getElem? (i := 815) (by decide +kernel))
theorem tm816 : Cond.selects "CreditLinksModel" ⟨"CreditLinksModel", "heard", "(I)I"⟩ ⟨"CreditLinksModel", "heard", "(I)I"⟩ ∈ lw_tbl := List.mem_append_right _ (List.mem_of_getElem? (i := 816) (by decide +kernel))
theorem tm817 : Cond.code ⟨"CreditLinksModel", "heard", "(I)I"⟩ prog_6_method_27_code 2 (Option.some .int) ∈ lw_tbl := List.mem_append_right _ (List.mem_of_getElem? (i := 817) (by decide +kernel))
theorem tm818 : Cond.methodLink "CreditLinksLaw" 119 ⟨"CreditLinksModel", "forReceiver", "(I)I"⟩ ∈ lw_tbl := List.mem_append_right _ (List.mem_of_getElem? (i := 818) (by decide +kernel))
theorem tm819 : Cond.instanceMethod ⟨"CreditLinksModel", "forReceiver", "(I)I"⟩ ∈ lw_tbl := List.mem_append_right _ (List.mem_of_getElem? (i := 819) (by decide +kernel))
theorem tm820 : Cond.selects "CreditLinksModel" ⟨"CreditLinksModel", "forReceiver", "(I)I"⟩ ⟨"CreditLinksModel", "forReceiver", "(I)I"⟩ ∈ lw_tbl := List.mem_append_right _ (List.mem_of_getElem? (i := 820) (by decide +kernel))
theorem tm821 : Cond.code ⟨"CreditLinksModel", "forReceiver", "(I)I"⟩ prog_6_method_28_code 2 (Option.some .int) ∈ lw_tbl := List.mem_append_right _ (List.mem_of_getElem? (i := 821) (by decide +kernel))
theorem tm822 : Cond.methodLink "CreditLinksLaw" 122 ⟨"CreditLinksModel", "effects", "(I)I"⟩ ∈ lw_tbl := List.mem_append_right _ (List.mem_of_getElem? (i := 822) (by decide +kernel))
theorem tm823 : Cond.instanceMethod ⟨"CreditLinksModel", "effects", "(I)I"⟩ ∈ lw_tbl := List.mem_append_right _ (List.mem_of_getElem? (i := 823) (by decide +kernel))
theorem tm824 : Cond.selects "CreditLinksModel" ⟨"CreditLinksModel", "effects", "(I)I"⟩ ⟨"CreditLinksModel", "effects", "(I)I"⟩ ∈ lw_tbl := List.mem_append_right _ (List.mem_of_getElem? (i := 824) (by decide +kernel))
theorem tm825 : Cond.code ⟨"CreditLinksModel", "effects", "(I)I"⟩ prog_6_method_29_code 2 (Option.some .int) ∈ lw_tbl := List.mem_append_right _ (List.mem_of_getElem? (i := 825) (by decide +kernel))
theorem tm826 : Cond.methodLink "CreditLinksLaw" 126 ⟨"CreditLinksModel", "breakOff", "()I"⟩ ∈ lw_tbl := List.mem_append_right _ (List.mem_of_getElem? (i := 826) (by decide +kernel))
theorem tm827 : Cond.instanceMethod ⟨"CreditLinksModel", "breakOff", "()I"⟩ ∈ lw_tbl := List.mem_append_right _ (List.mem_of_getElem? (i := 827) (by decide +kernel))
theorem tm828 : Cond.selects "CreditLinksModel" ⟨"CreditLinksModel", "breakOff", "()I"⟩ ⟨"CreditLinksModel", "breakOff", "()I"⟩ ∈ lw_tbl := List.mem_append_right _ (List.mem_of_getElem? (i := 828) (by decide +kernel))
theorem tm829 : Cond.code ⟨"CreditLinksModel", "breakOff", "()I"⟩ prog_6_method_31_code 2 (Option.some .int) ∈ lw_tbl := List.mem_append_right _ (List.mem_of_getElem? (i := 829) (by decide +kernel))
theorem tm830 : Cond.methodLink "CreditLinksModel" 140 ⟨"CreditLinksModel", "drops", "()V"⟩ ∈ lw_tbl := List.mem_append_right _ (List.mem_of_getElem? (i := 830) (by decide +kernel))
theorem tm832 : Cond.instanceMethod ⟨"CreditLinksModel", "drops", "()V"⟩ ∈ lw_tbl := List.mem_append_right _ (List.mem_of_getElem? (i := 832) (by decide +kernel))
theorem tm833 : Cond.code ⟨"CreditLinksModel", "drops", "()V"⟩ prog_6_method_30_code 2 none ∈ lw_tbl := List.mem_append_right _ (List.mem_of_getElem? (i := 833) (by decide +kernel))
theorem tm834 : Cond.methodLink "CreditLinksLaw" 129 ⟨"CreditLinksModel", "join", "()I"⟩ ∈ lw_tbl := List.mem_append_right _ (List.mem_of_getElem? (i := 834) (by decide +kernel))
theorem tm835 : Cond.instanceMethod ⟨"CreditLinksModel", "join", "()I"⟩ ∈ lw_tbl := List.mem_append_right _ (List.mem_of_getElem? (i := 835) (by decide +kernel))
theorem tm836 : Cond.selects "CreditLinksModel" ⟨"CreditLinksModel", "join", "()I"⟩ ⟨"CreditLinksModel", "join", "()I"⟩ ∈ lw_tbl := List.mem_append_right _ (List.mem_of_getElem? (i := 836) (by decide +kernel))
theorem tm837 : Cond.code ⟨"CreditLinksModel", "join", "()I"⟩ prog_6_method_33_code 3 (Option.some .int) ∈ lw_tbl := List.mem_append_right _ (List.mem_of_getElem? (i := 837) (by decide +kernel))
theorem tm838 : Cond.methodLink "CreditLinksModel" 143 ⟨"CreditLinksModel", "isSentAnew", "(I)Z"⟩ ∈ lw_tbl := List.mem_append_right _ (List.mem_of_getElem? (i := 838) (by decide +kernel))
theorem tm840 : Cond.instanceMethod ⟨"CreditLinksModel", "isSentAnew", "(I)Z"⟩ ∈ lw_tbl := List.mem_append_right _ (List.mem_of_getElem? (i := 840) (by decide +kernel))
theorem tm841 : Cond.code ⟨"CreditLinksModel", "isSentAnew", "(I)Z"⟩ prog_6_method_32_code 2 (Option.some .boolean) ∈ lw_tbl := List.mem_append_right _ (List.mem_of_getElem? (i := 841) (by decide +kernel))
theorem tm842 : Cond.methodLink "CreditLinksLaw" 133 ⟨"CreditLinksModel", "wouldResend", "()I"⟩ ∈ lw_tbl := List.mem_append_right _ (List.mem_of_getElem? (i := 842) (by decide +kernel))
theorem tm843 : Cond.instanceMethod ⟨"CreditLinksModel", "wouldResend", "()I"⟩ ∈ lw_tbl := List.mem_append_right _ (List.mem_of_getElem? (i := 843) (by decide +kernel))
theorem tm844 : Cond.selects "CreditLinksModel" ⟨"CreditLinksModel", "wouldResend", "()I"⟩ ⟨"CreditLinksModel", "wouldResend", "()I"⟩ ∈ lw_tbl := List.mem_append_right _ (List.mem_of_getElem? (i := 844) (by decide +kernel))
theorem tm845 : Cond.code ⟨"CreditLinksModel", "wouldResend", "()I"⟩ prog_6_method_34_code 3 (Option.some .int) ∈ lw_tbl := List.mem_append_right _ (List.mem_of_getElem? (i := 845) (by decide +kernel))
theorem tm846 : Cond.methodLink "CreditLinksLaw" 138 ⟨"CreditLinksModel", "isUp", "()Z"⟩ ∈ lw_tbl := List.mem_append_right _ (List.mem_of_getElem? (i := 846) (by decide +kernel))
theorem tm847 : Cond.instanceMethod ⟨"CreditLinksModel", "isUp", "()Z"⟩ ∈ lw_tbl := List.mem_append_right _ (List.mem_of_getElem? (i := 847) (by decide +kernel))
theorem tm848 : Cond.selects "CreditLinksModel" ⟨"CreditLinksModel", "isUp", "()Z"⟩ ⟨"CreditLinksModel", "isUp", "()Z"⟩ ∈ lw_tbl := List.mem_append_right _ (List.mem_of_getElem? (i := 848) (by decide +kernel))
theorem tm849 : Cond.code ⟨"CreditLinksModel", "isUp", "()Z"⟩ prog_6_method_35_code 1 (Option.some .boolean) ∈ lw_tbl := List.mem_append_right _ (List.mem_of_getElem? (i := 849) (by decide +kernel))
theorem tm850 : Cond.methodLink "CreditLinksLaw" 141 ⟨"CreditLinksModel", "begin", "()I"⟩ ∈ lw_tbl := List.mem_append_right _ (List.mem_of_getElem? (i := 850) (by decide +kernel))
theorem tm851 : Cond.instanceMethod ⟨"CreditLinksModel", "begin", "()I"⟩ ∈ lw_tbl := List.mem_append_right _ (List.mem_of_getElem? (i := 851) (by decide +kernel))
theorem tm852 : Cond.selects "CreditLinksModel" ⟨"CreditLinksModel", "begin", "()I"⟩ ⟨"CreditLinksModel", "begin", "()I"⟩ ∈ lw_tbl := List.mem_append_right _ (List.mem_of_getElem? (i := 852) (by decide +kernel))
theorem tm853 : Cond.code ⟨"CreditLinksModel", "begin", "()I"⟩ prog_6_method_36_code 1 (Option.some .int) ∈ lw_tbl := List.mem_append_right _ (List.mem_of_getElem? (i := 853) (by decide +kernel))
theorem tm854 : Cond.methodLink "CreditLinksLaw" 144 ⟨"CreditLinksModel", "tell", "(II)I"⟩ ∈ lw_tbl := List.mem_append_right _ (List.mem_of_getElem? (i := 854) (by decide +kernel))
theorem tm855 : Cond.instanceMethod ⟨"CreditLinksModel", "tell", "(II)I"⟩ ∈ lw_tbl := List.mem_append_right _ (List.mem_of_getElem? (i := 855) (by decide +kernel))
theorem tm856 : Cond.selects "CreditLinksModel" ⟨"CreditLinksModel", "tell", "(II)I"⟩ ⟨"CreditLinksModel", "tell", "(II)I"⟩ ∈ lw_tbl := List.mem_append_right _ (List.mem_of_getElem? (i := 856) (by decide +kernel))
theorem tm857 : Cond.code ⟨"CreditLinksModel", "tell", "(II)I"⟩ prog_6_method_37_code 4 (Option.some .int) ∈ lw_tbl := List.mem_append_right _ (List.mem_of_getElem? (i := 857) (by decide +kernel))
theorem tm858 : Cond.methodLink "CreditLinksLaw" 148 ⟨"CreditLinksModel", "end", "(Z)I"⟩ ∈ lw_tbl := List.mem_append_right _ (List.mem_of_getElem? (i := 858) (by decide +kernel))
theorem tm859 : Cond.instanceMethod ⟨"CreditLinksModel", "end", "(Z)I"⟩ ∈ lw_tbl := List.mem_append_right _ (List.mem_of_getElem? (i := 859) (by decide +kernel))
theorem tm860 : Cond.selects "CreditLinksModel" ⟨"CreditLinksModel", "end", "(Z)I"⟩ ⟨"CreditLinksModel", "end", "(Z)I"⟩ ∈ lw_tbl := List.mem_append_right _ (List.mem_of_getElem? (i := 860) (by decide +kernel))
theorem tm861 : Cond.code ⟨"CreditLinksModel", "end", "(Z)I"⟩ prog_6_method_38_code 4 (Option.some .int) ∈ lw_tbl := List.mem_append_right _ (List.mem_of_getElem? (i := 861) (by decide +kernel))
theorem tm862 : Cond.arrayClass .long ∈ lw_tbl := List.mem_append_right _ (List.mem_of_getElem? (i := 862) (by decide +kernel))
theorem tm863 : Cond.sameMethod "java/lang/Throwable" "java/lang/Throwable" "fillInStackTrace" "(I)Ljava/lang/Throwable;" ∈ lw_tbl := List.mem_append_right _ (List.mem_of_getElem? (i := 863) (by decide +kernel))
theorem tm875 : Cond.sameMethod "[Ljava/lang/Object;" "java/lang/Object" "getClass" "()Ljava/lang/Class;" ∈ lw_tbl := List.mem_append_right _ (List.mem_of_getElem? (i := 875) (by decide +kernel))
theorem tm876 : Cond.selects "[Ljava/lang/Object;" ⟨"java/lang/Object", "getClass", "()Ljava/lang/Class;"⟩ ⟨"java/lang/Object", "getClass", "()Ljava/lang/Class;"⟩ ∈ lw_tbl := List.mem_append_right _ (List.mem_of_getElem? (i := 876) (by decide +kernel))
theorem ts0 : Cond.selects "CreditLinks" ⟨"CreditLinks", "linkAt", "(I)LCreditLinks$Link;"⟩ ⟨"CreditLinks", "linkAt", "(I)LCreditLinks$Link;"⟩ ∈ lw_tbl := List.mem_append_left _ (List.mem_of_getElem? (i := 0) (by decide +kernel))
theorem ts1 : Cond.selects "java/lang/Throwable" ⟨"java/lang/Throwable", "fillInStackTrace", "(I)Ljava/lang/Throwable;"⟩ ⟨"java/lang/Throwable", "fillInStackTrace", "(I)Ljava/lang/Throwable;"⟩ ∈ lw_tbl := List.mem_append_left _ (List.mem_of_getElem? (i := 1) (by decide +kernel))
theorem ts2 : Cond.selects "CreditLinks" ⟨"CreditLinks", "requireConnection", "()V"⟩ ⟨"CreditLinks", "requireConnection", "()V"⟩ ∈ lw_tbl := List.mem_append_left _ (List.mem_of_getElem? (i := 2) (by decide +kernel))
theorem ts3 : Cond.selects "java/util/ArrayList" ⟨"java/util/ArrayList", "add", "(Ljava/lang/Object;[Ljava/lang/Object;I)V"⟩ ⟨"java/util/ArrayList", "add", "(Ljava/lang/Object;[Ljava/lang/Object;I)V"⟩ ∈ lw_tbl := List.mem_append_left _ (List.mem_of_getElem? (i := 3) (by decide +kernel))
theorem ts4 : Cond.selects "java/util/ArrayList" ⟨"java/util/ArrayList", "grow", "()[Ljava/lang/Object;"⟩ ⟨"java/util/ArrayList", "grow", "()[Ljava/lang/Object;"⟩ ∈ lw_tbl := List.mem_append_left _ (List.mem_of_getElem? (i := 4) (by decide +kernel))
theorem ts5 : Cond.selects "java/util/ArrayList" ⟨"java/util/ArrayList", "grow", "(I)[Ljava/lang/Object;"⟩ ⟨"java/util/ArrayList", "grow", "(I)[Ljava/lang/Object;"⟩ ∈ lw_tbl := List.mem_append_left _ (List.mem_of_getElem? (i := 5) (by decide +kernel))
theorem ts6 : Cond.selects "CreditLinks" ⟨"CreditLinks", "addParts", "(LCreditLinks$Delivery;I)V"⟩ ⟨"CreditLinks", "addParts", "(LCreditLinks$Delivery;I)V"⟩ ∈ lw_tbl := List.mem_append_left _ (List.mem_of_getElem? (i := 6) (by decide +kernel))
theorem ts7 : Cond.selects "CreditLinks" ⟨"CreditLinks", "receiverTakesFrame", "()Z"⟩ ⟨"CreditLinks", "receiverTakesFrame", "()Z"⟩ ∈ lw_tbl := List.mem_append_left _ (List.mem_of_getElem? (i := 7) (by decide +kernel))
theorem ts8 : Cond.selects "CreditLinks" ⟨"CreditLinks", "deliveryAt", "(I)LCreditLinks$Delivery;"⟩ ⟨"CreditLinks", "deliveryAt", "(I)LCreditLinks$Delivery;"⟩ ∈ lw_tbl := List.mem_append_left _ (List.mem_of_getElem? (i := 8) (by decide +kernel))
theorem ts9 : Cond.selects "CreditLinks" ⟨"CreditLinks", "senderTakesFrame", "()Z"⟩ ⟨"CreditLinks", "senderTakesFrame", "()Z"⟩ ∈ lw_tbl := List.mem_append_left _ (List.mem_of_getElem? (i := 9) (by decide +kernel))
theorem ts10 : Cond.selects "CreditLinks" ⟨"CreditLinks", "carryOut", "(LCreditLinks$Delivery;I)V"⟩ ⟨"CreditLinks", "carryOut", "(LCreditLinks$Delivery;I)V"⟩ ∈ lw_tbl := List.mem_append_left _ (List.mem_of_getElem? (i := 10) (by decide +kernel))
theorem ts11 : Cond.selects "CreditLinks" ⟨"CreditLinks", "closeTransaction", "()V"⟩ ⟨"CreditLinks", "closeTransaction", "()V"⟩ ∈ lw_tbl := List.mem_append_left _ (List.mem_of_getElem? (i := 11) (by decide +kernel))
theorem ts12 : Cond.selects "CreditLinks" ⟨"CreditLinks", "requireTransaction", "()V"⟩ ⟨"CreditLinks", "requireTransaction", "()V"⟩ ∈ lw_tbl := List.mem_append_left _ (List.mem_of_getElem? (i := 12) (by decide +kernel))
theorem ts13 : Cond.selects "CreditLinksModel" ⟨"CreditLinksModel", "asked", "(ZZ)Z"⟩ ⟨"CreditLinksModel", "asked", "(ZZ)Z"⟩ ∈ lw_tbl := List.mem_append_left _ (List.mem_of_getElem? (i := 13) (by decide +kernel))
theorem ts14 : Cond.selects "CreditLinksModel" ⟨"CreditLinksModel", "asked", "(ZZZ)Z"⟩ ⟨"CreditLinksModel", "asked", "(ZZZ)Z"⟩ ∈ lw_tbl := List.mem_append_left _ (List.mem_of_getElem? (i := 14) (by decide +kernel))
theorem ts15 : Cond.selects "CreditLinksModel" ⟨"CreditLinksModel", "returns", "(I)V"⟩ ⟨"CreditLinksModel", "returns", "(I)V"⟩ ∈ lw_tbl := List.mem_append_left _ (List.mem_of_getElem? (i := 15) (by decide +kernel))
theorem ts16 : Cond.selects "CreditLinksModel" ⟨"CreditLinksModel", "asked", "(Z)Z"⟩ ⟨"CreditLinksModel", "asked", "(Z)Z"⟩ ∈ lw_tbl := List.mem_append_left _ (List.mem_of_getElem? (i := 16) (by decide +kernel))
theorem ts17 : Cond.selects "CreditLinksModel" ⟨"CreditLinksModel", "creditOf", "(I)I"⟩ ⟨"CreditLinksModel", "creditOf", "(I)I"⟩ ∈ lw_tbl := List.mem_append_left _ (List.mem_of_getElem? (i := 17) (by decide +kernel))
theorem ts18 : Cond.selects "CreditLinksModel" ⟨"CreditLinksModel", "sends", "(II)V"⟩ ⟨"CreditLinksModel", "sends", "(II)V"⟩ ∈ lw_tbl := List.mem_append_left _ (List.mem_of_getElem? (i := 18) (by decide +kernel))
theorem ts19 : Cond.selects "CreditLinksModel" ⟨"CreditLinksModel", "goes", "(I)V"⟩ ⟨"CreditLinksModel", "goes", "(I)V"⟩ ∈ lw_tbl := List.mem_append_left _ (List.mem_of_getElem? (i := 19) (by decide +kernel))
theorem ts20 : Cond.selects "CreditLinksModel" ⟨"CreditLinksModel", "comes", "(IIZ)Z"⟩ ⟨"CreditLinksModel", "comes", "(IIZ)Z"⟩ ∈ lw_tbl := List.mem_append_left _ (List.mem_of_getElem? (i := 20) (by decide +kernel))
theorem ts21 : Cond.selects "CreditLinksModel" ⟨"CreditLinksModel", "isDelivery", "(I)Z"⟩ ⟨"CreditLinksModel", "isDelivery", "(I)Z"⟩ ∈ lw_tbl := List.mem_append_left _ (List.mem_of_getElem? (i := 21) (by decide +kernel))
theorem ts22 : Cond.selects "CreditLinksModel" ⟨"CreditLinksModel", "decides", "(II)V"⟩ ⟨"CreditLinksModel", "decides", "(II)V"⟩ ∈ lw_tbl := List.mem_append_left _ (List.mem_of_getElem? (i := 22) (by decide +kernel))
theorem ts23 : Cond.selects "CreditLinksModel" ⟨"CreditLinksModel", "tells", "(I)I"⟩ ⟨"CreditLinksModel", "tells", "(I)I"⟩ ∈ lw_tbl := List.mem_append_left _ (List.mem_of_getElem? (i := 23) (by decide +kernel))
theorem ts24 : Cond.selects "CreditLinksModel" ⟨"CreditLinksModel", "drops", "()V"⟩ ⟨"CreditLinksModel", "drops", "()V"⟩ ∈ lw_tbl := List.mem_append_left _ (List.mem_of_getElem? (i := 24) (by decide +kernel))
theorem ts25 : Cond.selects "CreditLinksModel" ⟨"CreditLinksModel", "isSentAnew", "(I)Z"⟩ ⟨"CreditLinksModel", "isSentAnew", "(I)Z"⟩ ∈ lw_tbl := List.mem_append_left _ (List.mem_of_getElem? (i := 25) (by decide +kernel))
theorem md_X0_init : yX0_init.cls ≠ "java/lang/invoke/MethodHandle" ∧ yX0_init.cls ≠ "java/lang/invoke/VarHandle" ∧ (parseMethodDescriptor yX0_init.desc).map (fun d => d.parameters.length) = some 4 := by decide +kernel
theorem md_X0_takePart : yX0_takePart.cls ≠ "java/lang/invoke/MethodHandle" ∧ yX0_takePart.cls ≠ "java/lang/invoke/VarHandle" ∧ (parseMethodDescriptor yX0_takePart.desc).map (fun d => d.parameters.length) = some 1 := by decide +kernel
theorem md_X0_takeDecision : yX0_takeDecision.cls ≠ "java/lang/invoke/MethodHandle" ∧ yX0_takeDecision.cls ≠ "java/lang/invoke/VarHandle" ∧ (parseMethodDescriptor yX0_takeDecision.desc).map (fun d => d.parameters.length) = some 1 := by decide +kernel
theorem md_X0_forgetDecided : yX0_forgetDecided.cls ≠ "java/lang/invoke/MethodHandle" ∧ yX0_forgetDecided.cls ≠ "java/lang/invoke/VarHandle" ∧ (parseMethodDescriptor yX0_forgetDecided.desc).map (fun d => d.parameters.length) = some 0 := by decide +kernel
theorem md_X0_settle : yX0_settle.cls ≠ "java/lang/invoke/MethodHandle" ∧ yX0_settle.cls ≠ "java/lang/invoke/VarHandle" ∧ (parseMethodDescriptor yX0_settle.desc).map (fun d => d.parameters.length) = some 1 := by decide +kernel
theorem md_X0_bringTogether : yX0_bringTogether.cls ≠ "java/lang/invoke/MethodHandle" ∧ yX0_bringTogether.cls ≠ "java/lang/invoke/VarHandle" ∧ (parseMethodDescriptor yX0_bringTogether.desc).map (fun d => d.parameters.length) = some 0 := by decide +kernel
theorem md_X0_goesAnew : yX0_goesAnew.cls ≠ "java/lang/invoke/MethodHandle" ∧ yX0_goesAnew.cls ≠ "java/lang/invoke/VarHandle" ∧ (parseMethodDescriptor yX0_goesAnew.desc).map (fun d => d.parameters.length) = some 0 := by decide +kernel
theorem md_X1_init : yX1_init.cls ≠ "java/lang/invoke/MethodHandle" ∧ yX1_init.cls ≠ "java/lang/invoke/VarHandle" ∧ (parseMethodDescriptor yX1_init.desc).map (fun d => d.parameters.length) = some 0 := by decide +kernel
theorem md_X1_creditLeft : yX1_creditLeft.cls ≠ "java/lang/invoke/MethodHandle" ∧ yX1_creditLeft.cls ≠ "java/lang/invoke/VarHandle" ∧ (parseMethodDescriptor yX1_creditLeft.desc).map (fun d => d.parameters.length) = some 0 := by decide +kernel
theorem md_X1_countSent : yX1_countSent.cls ≠ "java/lang/invoke/MethodHandle" ∧ yX1_countSent.cls ≠ "java/lang/invoke/VarHandle" ∧ (parseMethodDescriptor yX1_countSent.desc).map (fun d => d.parameters.length) = some 0 := by decide +kernel
theorem md_X1_countCome : yX1_countCome.cls ≠ "java/lang/invoke/MethodHandle" ∧ yX1_countCome.cls ≠ "java/lang/invoke/VarHandle" ∧ (parseMethodDescriptor yX1_countCome.desc).map (fun d => d.parameters.length) = some 0 := by decide +kernel
theorem md_X1_startAgain : yX1_startAgain.cls ≠ "java/lang/invoke/MethodHandle" ∧ yX1_startAgain.cls ≠ "java/lang/invoke/VarHandle" ∧ (parseMethodDescriptor yX1_startAgain.desc).map (fun d => d.parameters.length) = some 0 := by decide +kernel
theorem md_X2_init : yX2_init.cls ≠ "java/lang/invoke/MethodHandle" ∧ yX2_init.cls ≠ "java/lang/invoke/VarHandle" ∧ (parseMethodDescriptor yX2_init.desc).map (fun d => d.parameters.length) = some 0 := by decide +kernel
theorem md_X2_length : yX2_length.cls ≠ "java/lang/invoke/MethodHandle" ∧ yX2_length.cls ≠ "java/lang/invoke/VarHandle" ∧ (parseMethodDescriptor yX2_length.desc).map (fun d => d.parameters.length) = some 0 := by decide +kernel
theorem md_X2_add : yX2_add.cls ≠ "java/lang/invoke/MethodHandle" ∧ yX2_add.cls ≠ "java/lang/invoke/VarHandle" ∧ (parseMethodDescriptor yX2_add.desc).map (fun d => d.parameters.length) = some 3 := by decide +kernel
theorem md_X2_firstKind : yX2_firstKind.cls ≠ "java/lang/invoke/MethodHandle" ∧ yX2_firstKind.cls ≠ "java/lang/invoke/VarHandle" ∧ (parseMethodDescriptor yX2_firstKind.desc).map (fun d => d.parameters.length) = some 0 := by decide +kernel
theorem md_X2_firstSubject : yX2_firstSubject.cls ≠ "java/lang/invoke/MethodHandle" ∧ yX2_firstSubject.cls ≠ "java/lang/invoke/VarHandle" ∧ (parseMethodDescriptor yX2_firstSubject.desc).map (fun d => d.parameters.length) = some 0 := by decide +kernel
theorem md_X2_firstValue : yX2_firstValue.cls ≠ "java/lang/invoke/MethodHandle" ∧ yX2_firstValue.cls ≠ "java/lang/invoke/VarHandle" ∧ (parseMethodDescriptor yX2_firstValue.desc).map (fun d => d.parameters.length) = some 0 := by decide +kernel
theorem md_X2_dropFirst : yX2_dropFirst.cls ≠ "java/lang/invoke/MethodHandle" ∧ yX2_dropFirst.cls ≠ "java/lang/invoke/VarHandle" ∧ (parseMethodDescriptor yX2_dropFirst.desc).map (fun d => d.parameters.length) = some 0 := by decide +kernel
theorem md_X2_drop : yX2_drop.cls ≠ "java/lang/invoke/MethodHandle" ∧ yX2_drop.cls ≠ "java/lang/invoke/VarHandle" ∧ (parseMethodDescriptor yX2_drop.desc).map (fun d => d.parameters.length) = some 0 := by decide +kernel
theorem md_X3_init : yX3_init.cls ≠ "java/lang/invoke/MethodHandle" ∧ yX3_init.cls ≠ "java/lang/invoke/VarHandle" ∧ (parseMethodDescriptor yX3_init.desc).map (fun d => d.parameters.length) = some 0 := by decide +kernel
theorem md_X3_setMode : yX3_setMode.cls ≠ "java/lang/invoke/MethodHandle" ∧ yX3_setMode.cls ≠ "java/lang/invoke/VarHandle" ∧ (parseMethodDescriptor yX3_setMode.desc).map (fun d => d.parameters.length) = some 2 := by decide +kernel
theorem md_X3_grant : yX3_grant.cls ≠ "java/lang/invoke/MethodHandle" ∧ yX3_grant.cls ≠ "java/lang/invoke/VarHandle" ∧ (parseMethodDescriptor yX3_grant.desc).map (fun d => d.parameters.length) = some 2 := by decide +kernel
theorem md_X3_credit : yX3_credit.cls ≠ "java/lang/invoke/MethodHandle" ∧ yX3_credit.cls ≠ "java/lang/invoke/VarHandle" ∧ (parseMethodDescriptor yX3_credit.desc).map (fun d => d.parameters.length) = some 1 := by decide +kernel
theorem md_X3_send : yX3_send.cls ≠ "java/lang/invoke/MethodHandle" ∧ yX3_send.cls ≠ "java/lang/invoke/VarHandle" ∧ (parseMethodDescriptor yX3_send.desc).map (fun d => d.parameters.length) = some 2 := by decide +kernel
theorem md_X3_toReceiver : yX3_toReceiver.cls ≠ "java/lang/invoke/MethodHandle" ∧ yX3_toReceiver.cls ≠ "java/lang/invoke/VarHandle" ∧ (parseMethodDescriptor yX3_toReceiver.desc).map (fun d => d.parameters.length) = some 1 := by decide +kernel
theorem md_X3_toSender : yX3_toSender.cls ≠ "java/lang/invoke/MethodHandle" ∧ yX3_toSender.cls ≠ "java/lang/invoke/VarHandle" ∧ (parseMethodDescriptor yX3_toSender.desc).map (fun d => d.parameters.length) = some 1 := by decide +kernel
theorem md_X3_decide : yX3_decide.cls ≠ "java/lang/invoke/MethodHandle" ∧ yX3_decide.cls ≠ "java/lang/invoke/VarHandle" ∧ (parseMethodDescriptor yX3_decide.desc).map (fun d => d.parameters.length) = some 2 := by decide +kernel
theorem md_X3_deliveries : yX3_deliveries.cls ≠ "java/lang/invoke/MethodHandle" ∧ yX3_deliveries.cls ≠ "java/lang/invoke/VarHandle" ∧ (parseMethodDescriptor yX3_deliveries.desc).map (fun d => d.parameters.length) = some 0 := by decide +kernel
theorem md_X3_underWay : yX3_underWay.cls ≠ "java/lang/invoke/MethodHandle" ∧ yX3_underWay.cls ≠ "java/lang/invoke/VarHandle" ∧ (parseMethodDescriptor yX3_underWay.desc).map (fun d => d.parameters.length) = some 0 := by decide +kernel
theorem md_X3_backUnderWay : yX3_backUnderWay.cls ≠ "java/lang/invoke/MethodHandle" ∧ yX3_backUnderWay.cls ≠ "java/lang/invoke/VarHandle" ∧ (parseMethodDescriptor yX3_backUnderWay.desc).map (fun d => d.parameters.length) = some 0 := by decide +kernel
theorem md_X3_forSender : yX3_forSender.cls ≠ "java/lang/invoke/MethodHandle" ∧ yX3_forSender.cls ≠ "java/lang/invoke/VarHandle" ∧ (parseMethodDescriptor yX3_forSender.desc).map (fun d => d.parameters.length) = some 1 := by decide +kernel
theorem md_X3_heard : yX3_heard.cls ≠ "java/lang/invoke/MethodHandle" ∧ yX3_heard.cls ≠ "java/lang/invoke/VarHandle" ∧ (parseMethodDescriptor yX3_heard.desc).map (fun d => d.parameters.length) = some 1 := by decide +kernel
theorem md_X3_forReceiver : yX3_forReceiver.cls ≠ "java/lang/invoke/MethodHandle" ∧ yX3_forReceiver.cls ≠ "java/lang/invoke/VarHandle" ∧ (parseMethodDescriptor yX3_forReceiver.desc).map (fun d => d.parameters.length) = some 1 := by decide +kernel
theorem md_X3_effects : yX3_effects.cls ≠ "java/lang/invoke/MethodHandle" ∧ yX3_effects.cls ≠ "java/lang/invoke/VarHandle" ∧ (parseMethodDescriptor yX3_effects.desc).map (fun d => d.parameters.length) = some 1 := by decide +kernel
theorem md_X3_breakOff : yX3_breakOff.cls ≠ "java/lang/invoke/MethodHandle" ∧ yX3_breakOff.cls ≠ "java/lang/invoke/VarHandle" ∧ (parseMethodDescriptor yX3_breakOff.desc).map (fun d => d.parameters.length) = some 0 := by decide +kernel
theorem md_X3_join : yX3_join.cls ≠ "java/lang/invoke/MethodHandle" ∧ yX3_join.cls ≠ "java/lang/invoke/VarHandle" ∧ (parseMethodDescriptor yX3_join.desc).map (fun d => d.parameters.length) = some 0 := by decide +kernel
theorem md_X3_wouldResend : yX3_wouldResend.cls ≠ "java/lang/invoke/MethodHandle" ∧ yX3_wouldResend.cls ≠ "java/lang/invoke/VarHandle" ∧ (parseMethodDescriptor yX3_wouldResend.desc).map (fun d => d.parameters.length) = some 0 := by decide +kernel
theorem md_X3_isUp : yX3_isUp.cls ≠ "java/lang/invoke/MethodHandle" ∧ yX3_isUp.cls ≠ "java/lang/invoke/VarHandle" ∧ (parseMethodDescriptor yX3_isUp.desc).map (fun d => d.parameters.length) = some 0 := by decide +kernel
theorem md_X3_begin : yX3_begin.cls ≠ "java/lang/invoke/MethodHandle" ∧ yX3_begin.cls ≠ "java/lang/invoke/VarHandle" ∧ (parseMethodDescriptor yX3_begin.desc).map (fun d => d.parameters.length) = some 0 := by decide +kernel
theorem md_X3_tell : yX3_tell.cls ≠ "java/lang/invoke/MethodHandle" ∧ yX3_tell.cls ≠ "java/lang/invoke/VarHandle" ∧ (parseMethodDescriptor yX3_tell.desc).map (fun d => d.parameters.length) = some 2 := by decide +kernel
theorem md_X3_end : yX3_end.cls ≠ "java/lang/invoke/MethodHandle" ∧ yX3_end.cls ≠ "java/lang/invoke/VarHandle" ∧ (parseMethodDescriptor yX3_end.desc).map (fun d => d.parameters.length) = some 1 := by decide +kernel
theorem md_X3_linkAt : yX3_linkAt.cls ≠ "java/lang/invoke/MethodHandle" ∧ yX3_linkAt.cls ≠ "java/lang/invoke/VarHandle" ∧ (parseMethodDescriptor yX3_linkAt.desc).map (fun d => d.parameters.length) = some 1 := by decide +kernel
theorem md_X3_deliveryAt : yX3_deliveryAt.cls ≠ "java/lang/invoke/MethodHandle" ∧ yX3_deliveryAt.cls ≠ "java/lang/invoke/VarHandle" ∧ (parseMethodDescriptor yX3_deliveryAt.desc).map (fun d => d.parameters.length) = some 1 := by decide +kernel
theorem md_X3_requireConnection : yX3_requireConnection.cls ≠ "java/lang/invoke/MethodHandle" ∧ yX3_requireConnection.cls ≠ "java/lang/invoke/VarHandle" ∧ (parseMethodDescriptor yX3_requireConnection.desc).map (fun d => d.parameters.length) = some 0 := by decide +kernel
theorem md_X3_requireTransaction : yX3_requireTransaction.cls ≠ "java/lang/invoke/MethodHandle" ∧ yX3_requireTransaction.cls ≠ "java/lang/invoke/VarHandle" ∧ (parseMethodDescriptor yX3_requireTransaction.desc).map (fun d => d.parameters.length) = some 0 := by decide +kernel
theorem md_X3_requireUndecided : yX3_requireUndecided.cls ≠ "java/lang/invoke/MethodHandle" ∧ yX3_requireUndecided.cls ≠ "java/lang/invoke/VarHandle" ∧ (parseMethodDescriptor yX3_requireUndecided.desc).map (fun d => d.parameters.length) = some 1 := by decide +kernel
theorem md_X3_requireOutcome : yX3_requireOutcome.cls ≠ "java/lang/invoke/MethodHandle" ∧ yX3_requireOutcome.cls ≠ "java/lang/invoke/VarHandle" ∧ (parseMethodDescriptor yX3_requireOutcome.desc).map (fun d => d.parameters.length) = some 1 := by decide +kernel
theorem md_X3_requireCount : yX3_requireCount.cls ≠ "java/lang/invoke/MethodHandle" ∧ yX3_requireCount.cls ≠ "java/lang/invoke/VarHandle" ∧ (parseMethodDescriptor yX3_requireCount.desc).map (fun d => d.parameters.length) = some 1 := by decide +kernel
theorem md_X3_wrapped : yX3_wrapped.cls ≠ "java/lang/invoke/MethodHandle" ∧ yX3_wrapped.cls ≠ "java/lang/invoke/VarHandle" ∧ (parseMethodDescriptor yX3_wrapped.desc).map (fun d => d.parameters.length) = some 1 := by decide +kernel
theorem md_X3_addParts : yX3_addParts.cls ≠ "java/lang/invoke/MethodHandle" ∧ yX3_addParts.cls ≠ "java/lang/invoke/VarHandle" ∧ (parseMethodDescriptor yX3_addParts.desc).map (fun d => d.parameters.length) = some 2 := by decide +kernel
theorem md_X3_receiverTakesFrame : yX3_receiverTakesFrame.cls ≠ "java/lang/invoke/MethodHandle" ∧ yX3_receiverTakesFrame.cls ≠ "java/lang/invoke/VarHandle" ∧ (parseMethodDescriptor yX3_receiverTakesFrame.desc).map (fun d => d.parameters.length) = some 0 := by decide +kernel
theorem md_X3_senderTakesFrame : yX3_senderTakesFrame.cls ≠ "java/lang/invoke/MethodHandle" ∧ yX3_senderTakesFrame.cls ≠ "java/lang/invoke/VarHandle" ∧ (parseMethodDescriptor yX3_senderTakesFrame.desc).map (fun d => d.parameters.length) = some 0 := by decide +kernel
theorem md_X3_carryOut : yX3_carryOut.cls ≠ "java/lang/invoke/MethodHandle" ∧ yX3_carryOut.cls ≠ "java/lang/invoke/VarHandle" ∧ (parseMethodDescriptor yX3_carryOut.desc).map (fun d => d.parameters.length) = some 2 := by decide +kernel
theorem md_X3_closeTransaction : yX3_closeTransaction.cls ≠ "java/lang/invoke/MethodHandle" ∧ yX3_closeTransaction.cls ≠ "java/lang/invoke/VarHandle" ∧ (parseMethodDescriptor yX3_closeTransaction.desc).map (fun d => d.parameters.length) = some 0 := by decide +kernel
theorem md_X4_init : yX4_init.cls ≠ "java/lang/invoke/MethodHandle" ∧ yX4_init.cls ≠ "java/lang/invoke/VarHandle" ∧ (parseMethodDescriptor yX4_init.desc).map (fun d => d.parameters.length) = some 0 := by decide +kernel
theorem md_X4_thrown : yX4_thrown.cls ≠ "java/lang/invoke/MethodHandle" ∧ yX4_thrown.cls ≠ "java/lang/invoke/VarHandle" ∧ (parseMethodDescriptor yX4_thrown.desc).map (fun d => d.parameters.length) = some 0 := by decide +kernel
theorem md_X4_in : yX4_in.cls ≠ "java/lang/invoke/MethodHandle" ∧ yX4_in.cls ≠ "java/lang/invoke/VarHandle" ∧ (parseMethodDescriptor yX4_in.desc).map (fun d => d.parameters.length) = some 3 := by decide +kernel
theorem md_X4_asked : yX4_asked.cls ≠ "java/lang/invoke/MethodHandle" ∧ yX4_asked.cls ≠ "java/lang/invoke/VarHandle" ∧ (parseMethodDescriptor yX4_asked.desc).map (fun d => d.parameters.length) = some 1 := by decide +kernel
theorem md_X4_asked_ : yX4_asked_.cls ≠ "java/lang/invoke/MethodHandle" ∧ yX4_asked_.cls ≠ "java/lang/invoke/VarHandle" ∧ (parseMethodDescriptor yX4_asked_.desc).map (fun d => d.parameters.length) = some 2 := by decide +kernel
theorem md_X4_asked__ : yX4_asked__.cls ≠ "java/lang/invoke/MethodHandle" ∧ yX4_asked__.cls ≠ "java/lang/invoke/VarHandle" ∧ (parseMethodDescriptor yX4_asked__.desc).map (fun d => d.parameters.length) = some 3 := by decide +kernel
theorem md_X4_tells : yX4_tells.cls ≠ "java/lang/invoke/MethodHandle" ∧ yX4_tells.cls ≠ "java/lang/invoke/VarHandle" ∧ (parseMethodDescriptor yX4_tells.desc).map (fun d => d.parameters.length) = some 1 := by decide +kernel
theorem md_X4_isLink : yX4_isLink.cls ≠ "java/lang/invoke/MethodHandle" ∧ yX4_isLink.cls ≠ "java/lang/invoke/VarHandle" ∧ (parseMethodDescriptor yX4_isLink.desc).map (fun d => d.parameters.length) = some 1 := by decide +kernel
theorem md_X4_isDelivery : yX4_isDelivery.cls ≠ "java/lang/invoke/MethodHandle" ∧ yX4_isDelivery.cls ≠ "java/lang/invoke/VarHandle" ∧ (parseMethodDescriptor yX4_isDelivery.desc).map (fun d => d.parameters.length) = some 1 := by decide +kernel
theorem md_X4_goes : yX4_goes.cls ≠ "java/lang/invoke/MethodHandle" ∧ yX4_goes.cls ≠ "java/lang/invoke/VarHandle" ∧ (parseMethodDescriptor yX4_goes.desc).map (fun d => d.parameters.length) = some 1 := by decide +kernel
theorem md_X4_returns : yX4_returns.cls ≠ "java/lang/invoke/MethodHandle" ∧ yX4_returns.cls ≠ "java/lang/invoke/VarHandle" ∧ (parseMethodDescriptor yX4_returns.desc).map (fun d => d.parameters.length) = some 1 := by decide +kernel
theorem md_X4_setMode : yX4_setMode.cls ≠ "java/lang/invoke/MethodHandle" ∧ yX4_setMode.cls ≠ "java/lang/invoke/VarHandle" ∧ (parseMethodDescriptor yX4_setMode.desc).map (fun d => d.parameters.length) = some 2 := by decide +kernel
theorem md_X4_grant : yX4_grant.cls ≠ "java/lang/invoke/MethodHandle" ∧ yX4_grant.cls ≠ "java/lang/invoke/VarHandle" ∧ (parseMethodDescriptor yX4_grant.desc).map (fun d => d.parameters.length) = some 2 := by decide +kernel
theorem md_X4_creditOf : yX4_creditOf.cls ≠ "java/lang/invoke/MethodHandle" ∧ yX4_creditOf.cls ≠ "java/lang/invoke/VarHandle" ∧ (parseMethodDescriptor yX4_creditOf.desc).map (fun d => d.parameters.length) = some 1 := by decide +kernel
theorem md_X4_credit : yX4_credit.cls ≠ "java/lang/invoke/MethodHandle" ∧ yX4_credit.cls ≠ "java/lang/invoke/VarHandle" ∧ (parseMethodDescriptor yX4_credit.desc).map (fun d => d.parameters.length) = some 1 := by decide +kernel
theorem md_X4_sends : yX4_sends.cls ≠ "java/lang/invoke/MethodHandle" ∧ yX4_sends.cls ≠ "java/lang/invoke/VarHandle" ∧ (parseMethodDescriptor yX4_sends.desc).map (fun d => d.parameters.length) = some 2 := by decide +kernel
theorem md_X4_send : yX4_send.cls ≠ "java/lang/invoke/MethodHandle" ∧ yX4_send.cls ≠ "java/lang/invoke/VarHandle" ∧ (parseMethodDescriptor yX4_send.desc).map (fun d => d.parameters.length) = some 2 := by decide +kernel
theorem md_X4_comes : yX4_comes.cls ≠ "java/lang/invoke/MethodHandle" ∧ yX4_comes.cls ≠ "java/lang/invoke/VarHandle" ∧ (parseMethodDescriptor yX4_comes.desc).map (fun d => d.parameters.length) = some 3 := by decide +kernel
theorem md_X4_toReceiver : yX4_toReceiver.cls ≠ "java/lang/invoke/MethodHandle" ∧ yX4_toReceiver.cls ≠ "java/lang/invoke/VarHandle" ∧ (parseMethodDescriptor yX4_toReceiver.desc).map (fun d => d.parameters.length) = some 1 := by decide +kernel
theorem md_X4_toSender : yX4_toSender.cls ≠ "java/lang/invoke/MethodHandle" ∧ yX4_toSender.cls ≠ "java/lang/invoke/VarHandle" ∧ (parseMethodDescriptor yX4_toSender.desc).map (fun d => d.parameters.length) = some 1 := by decide +kernel
theorem md_X4_decides : yX4_decides.cls ≠ "java/lang/invoke/MethodHandle" ∧ yX4_decides.cls ≠ "java/lang/invoke/VarHandle" ∧ (parseMethodDescriptor yX4_decides.desc).map (fun d => d.parameters.length) = some 2 := by decide +kernel
theorem md_X4_decide : yX4_decide.cls ≠ "java/lang/invoke/MethodHandle" ∧ yX4_decide.cls ≠ "java/lang/invoke/VarHandle" ∧ (parseMethodDescriptor yX4_decide.desc).map (fun d => d.parameters.length) = some 2 := by decide +kernel
theorem md_X4_deliveries : yX4_deliveries.cls ≠ "java/lang/invoke/MethodHandle" ∧ yX4_deliveries.cls ≠ "java/lang/invoke/VarHandle" ∧ (parseMethodDescriptor yX4_deliveries.desc).map (fun d => d.parameters.length) = some 0 := by decide +kernel
theorem md_X4_underWay : yX4_underWay.cls ≠ "java/lang/invoke/MethodHandle" ∧ yX4_underWay.cls ≠ "java/lang/invoke/VarHandle" ∧ (parseMethodDescriptor yX4_underWay.desc).map (fun d => d.parameters.length) = some 0 := by decide +kernel
theorem md_X4_backUnderWay : yX4_backUnderWay.cls ≠ "java/lang/invoke/MethodHandle" ∧ yX4_backUnderWay.cls ≠ "java/lang/invoke/VarHandle" ∧ (parseMethodDescriptor yX4_backUnderWay.desc).map (fun d => d.parameters.length) = some 0 := by decide +kernel
theorem md_X4_forSender : yX4_forSender.cls ≠ "java/lang/invoke/MethodHandle" ∧ yX4_forSender.cls ≠ "java/lang/invoke/VarHandle" ∧ (parseMethodDescriptor yX4_forSender.desc).map (fun d => d.parameters.length) = some 1 := by decide +kernel
theorem md_X4_heard : yX4_heard.cls ≠ "java/lang/invoke/MethodHandle" ∧ yX4_heard.cls ≠ "java/lang/invoke/VarHandle" ∧ (parseMethodDescriptor yX4_heard.desc).map (fun d => d.parameters.length) = some 1 := by decide +kernel
theorem md_X4_forReceiver : yX4_forReceiver.cls ≠ "java/lang/invoke/MethodHandle" ∧ yX4_forReceiver.cls ≠ "java/lang/invoke/VarHandle" ∧ (parseMethodDescriptor yX4_forReceiver.desc).map (fun d => d.parameters.length) = some 1 := by decide +kernel
theorem md_X4_effects : yX4_effects.cls ≠ "java/lang/invoke/MethodHandle" ∧ yX4_effects.cls ≠ "java/lang/invoke/VarHandle" ∧ (parseMethodDescriptor yX4_effects.desc).map (fun d => d.parameters.length) = some 1 := by decide +kernel
theorem md_X4_drops : yX4_drops.cls ≠ "java/lang/invoke/MethodHandle" ∧ yX4_drops.cls ≠ "java/lang/invoke/VarHandle" ∧ (parseMethodDescriptor yX4_drops.desc).map (fun d => d.parameters.length) = some 0 := by decide +kernel
theorem md_X4_breakOff : yX4_breakOff.cls ≠ "java/lang/invoke/MethodHandle" ∧ yX4_breakOff.cls ≠ "java/lang/invoke/VarHandle" ∧ (parseMethodDescriptor yX4_breakOff.desc).map (fun d => d.parameters.length) = some 0 := by decide +kernel
theorem md_X4_isSentAnew : yX4_isSentAnew.cls ≠ "java/lang/invoke/MethodHandle" ∧ yX4_isSentAnew.cls ≠ "java/lang/invoke/VarHandle" ∧ (parseMethodDescriptor yX4_isSentAnew.desc).map (fun d => d.parameters.length) = some 1 := by decide +kernel
theorem md_X4_join : yX4_join.cls ≠ "java/lang/invoke/MethodHandle" ∧ yX4_join.cls ≠ "java/lang/invoke/VarHandle" ∧ (parseMethodDescriptor yX4_join.desc).map (fun d => d.parameters.length) = some 0 := by decide +kernel
theorem md_X4_wouldResend : yX4_wouldResend.cls ≠ "java/lang/invoke/MethodHandle" ∧ yX4_wouldResend.cls ≠ "java/lang/invoke/VarHandle" ∧ (parseMethodDescriptor yX4_wouldResend.desc).map (fun d => d.parameters.length) = some 0 := by decide +kernel
theorem md_X4_isUp : yX4_isUp.cls ≠ "java/lang/invoke/MethodHandle" ∧ yX4_isUp.cls ≠ "java/lang/invoke/VarHandle" ∧ (parseMethodDescriptor yX4_isUp.desc).map (fun d => d.parameters.length) = some 0 := by decide +kernel
theorem md_X4_begin : yX4_begin.cls ≠ "java/lang/invoke/MethodHandle" ∧ yX4_begin.cls ≠ "java/lang/invoke/VarHandle" ∧ (parseMethodDescriptor yX4_begin.desc).map (fun d => d.parameters.length) = some 0 := by decide +kernel
theorem md_X4_tell : yX4_tell.cls ≠ "java/lang/invoke/MethodHandle" ∧ yX4_tell.cls ≠ "java/lang/invoke/VarHandle" ∧ (parseMethodDescriptor yX4_tell.desc).map (fun d => d.parameters.length) = some 2 := by decide +kernel
theorem md_X4_end : yX4_end.cls ≠ "java/lang/invoke/MethodHandle" ∧ yX4_end.cls ≠ "java/lang/invoke/VarHandle" ∧ (parseMethodDescriptor yX4_end.desc).map (fun d => d.parameters.length) = some 1 := by decide +kernel
theorem md_J9_floorMod_7cf53 : yJ9_floorMod_7cf53.cls ≠ "java/lang/invoke/MethodHandle" ∧ yJ9_floorMod_7cf53.cls ≠ "java/lang/invoke/VarHandle" ∧ (parseMethodDescriptor yJ9_floorMod_7cf53.desc).map (fun d => d.parameters.length) = some 2 := by decide +kernel
theorem md_J9_max_7cf53 : yJ9_max_7cf53.cls ≠ "java/lang/invoke/MethodHandle" ∧ yJ9_max_7cf53.cls ≠ "java/lang/invoke/VarHandle" ∧ (parseMethodDescriptor yJ9_max_7cf53.desc).map (fun d => d.parameters.length) = some 2 := by decide +kernel
theorem md_J9_min_7cf53 : yJ9_min_7cf53.cls ≠ "java/lang/invoke/MethodHandle" ∧ yJ9_min_7cf53.cls ≠ "java/lang/invoke/VarHandle" ∧ (parseMethodDescriptor yJ9_min_7cf53.desc).map (fun d => d.parameters.length) = some 2 := by decide +kernel
theorem md_Jxa1e45_init_da8c8 : yJxa1e45_init_da8c8.cls ≠ "java/lang/invoke/MethodHandle" ∧ yJxa1e45_init_da8c8.cls ≠ "java/lang/invoke/VarHandle" ∧ (parseMethodDescriptor yJxa1e45_init_da8c8.desc).map (fun d => d.parameters.length) = some 0 := by decide +kernel
theorem md_Jxc12de_init_da8c8 : yJxc12de_init_da8c8.cls ≠ "java/lang/invoke/MethodHandle" ∧ yJxc12de_init_da8c8.cls ≠ "java/lang/invoke/VarHandle" ∧ (parseMethodDescriptor yJxc12de_init_da8c8.desc).map (fun d => d.parameters.length) = some 0 := by decide +kernel
theorem md_Jx4a65c_init_da8c8 : yJx4a65c_init_da8c8.cls ≠ "java/lang/invoke/MethodHandle" ∧ yJx4a65c_init_da8c8.cls ≠ "java/lang/invoke/VarHandle" ∧ (parseMethodDescriptor yJx4a65c_init_da8c8.desc).map (fun d => d.parameters.length) = some 0 := by decide +kernel
theorem md_Jx4a65c_grow_92f84 : yJx4a65c_grow_92f84.cls ≠ "java/lang/invoke/MethodHandle" ∧ yJx4a65c_grow_92f84.cls ≠ "java/lang/invoke/VarHandle" ∧ (parseMethodDescriptor yJx4a65c_grow_92f84.desc).map (fun d => d.parameters.length) = some 1 := by decide +kernel
theorem md_Jx4a65c_grow_d5877 : yJx4a65c_grow_d5877.cls ≠ "java/lang/invoke/MethodHandle" ∧ yJx4a65c_grow_d5877.cls ≠ "java/lang/invoke/VarHandle" ∧ (parseMethodDescriptor yJx4a65c_grow_d5877.desc).map (fun d => d.parameters.length) = some 0 := by decide +kernel
theorem md_Jx4a65c_size_8abf5 : yJx4a65c_size_8abf5.cls ≠ "java/lang/invoke/MethodHandle" ∧ yJx4a65c_size_8abf5.cls ≠ "java/lang/invoke/VarHandle" ∧ (parseMethodDescriptor yJx4a65c_size_8abf5.desc).map (fun d => d.parameters.length) = some 0 := by decide +kernel
theorem md_Jx4a65c_elementData_915e3 : yJx4a65c_elementData_915e3.cls ≠ "java/lang/invoke/MethodHandle" ∧ yJx4a65c_elementData_915e3.cls ≠ "java/lang/invoke/VarHandle" ∧ (parseMethodDescriptor yJx4a65c_elementData_915e3.desc).map (fun d => d.parameters.length) = some 1 := by decide +kernel
theorem md_Jx4a65c_get_915e3 : yJx4a65c_get_915e3.cls ≠ "java/lang/invoke/MethodHandle" ∧ yJx4a65c_get_915e3.cls ≠ "java/lang/invoke/VarHandle" ∧ (parseMethodDescriptor yJx4a65c_get_915e3.desc).map (fun d => d.parameters.length) = some 1 := by decide +kernel
theorem md_Jx4a65c_add_72be8 : yJx4a65c_add_72be8.cls ≠ "java/lang/invoke/MethodHandle" ∧ yJx4a65c_add_72be8.cls ≠ "java/lang/invoke/VarHandle" ∧ (parseMethodDescriptor yJx4a65c_add_72be8.desc).map (fun d => d.parameters.length) = some 3 := by decide +kernel
theorem md_Jx4a65c_add_9ea2d : yJx4a65c_add_9ea2d.cls ≠ "java/lang/invoke/MethodHandle" ∧ yJx4a65c_add_9ea2d.cls ≠ "java/lang/invoke/VarHandle" ∧ (parseMethodDescriptor yJx4a65c_add_9ea2d.desc).map (fun d => d.parameters.length) = some 1 := by decide +kernel
theorem md_Jx4a65c_clear_da8c8 : yJx4a65c_clear_da8c8.cls ≠ "java/lang/invoke/MethodHandle" ∧ yJx4a65c_clear_da8c8.cls ≠ "java/lang/invoke/VarHandle" ∧ (parseMethodDescriptor yJx4a65c_clear_da8c8.desc).map (fun d => d.parameters.length) = some 0 := by decide +kernel
theorem md_J7_copyOf_1904c : yJ7_copyOf_1904c.cls ≠ "java/lang/invoke/MethodHandle" ∧ yJ7_copyOf_1904c.cls ≠ "java/lang/invoke/VarHandle" ∧ (parseMethodDescriptor yJ7_copyOf_1904c.desc).map (fun d => d.parameters.length) = some 2 := by decide +kernel
theorem md_J7_copyOf_6403c : yJ7_copyOf_6403c.cls ≠ "java/lang/invoke/MethodHandle" ∧ yJ7_copyOf_6403c.cls ≠ "java/lang/invoke/VarHandle" ∧ (parseMethodDescriptor yJ7_copyOf_6403c.desc).map (fun d => d.parameters.length) = some 3 := by decide +kernel
theorem md_J15_checkIndex_7cf53 : yJ15_checkIndex_7cf53.cls ≠ "java/lang/invoke/MethodHandle" ∧ yJ15_checkIndex_7cf53.cls ≠ "java/lang/invoke/VarHandle" ∧ (parseMethodDescriptor yJ15_checkIndex_7cf53.desc).map (fun d => d.parameters.length) = some 2 := by decide +kernel
theorem md_J8_newLength_cabcc : yJ8_newLength_cabcc.cls ≠ "java/lang/invoke/MethodHandle" ∧ yJ8_newLength_cabcc.cls ≠ "java/lang/invoke/VarHandle" ∧ (parseMethodDescriptor yJ8_newLength_cabcc.desc).map (fun d => d.parameters.length) = some 3 := by decide +kernel
theorem md_J8_hugeLength_7cf53 : yJ8_hugeLength_7cf53.cls ≠ "java/lang/invoke/MethodHandle" ∧ yJ8_hugeLength_7cf53.cls ≠ "java/lang/invoke/VarHandle" ∧ (parseMethodDescriptor yJ8_hugeLength_7cf53.desc).map (fun d => d.parameters.length) = some 2 := by decide +kernel
theorem md_J3_checkIndex_8e157 : yJ3_checkIndex_8e157.cls ≠ "java/lang/invoke/MethodHandle" ∧ yJ3_checkIndex_8e157.cls ≠ "java/lang/invoke/VarHandle" ∧ (parseMethodDescriptor yJ3_checkIndex_8e157.desc).map (fun d => d.parameters.length) = some 3 := by decide +kernel
theorem md_L_setMode : yL_setMode.cls ≠ "java/lang/invoke/MethodHandle" ∧ yL_setMode.cls ≠ "java/lang/invoke/VarHandle" ∧ (parseMethodDescriptor yL_setMode.desc).map (fun d => d.parameters.length) = some 4 := by decide +kernel
theorem md_L_grant : yL_grant.cls ≠ "java/lang/invoke/MethodHandle" ∧ yL_grant.cls ≠ "java/lang/invoke/VarHandle" ∧ (parseMethodDescriptor yL_grant.desc).map (fun d => d.parameters.length) = some 4 := by decide +kernel
theorem md_L_credit : yL_credit.cls ≠ "java/lang/invoke/MethodHandle" ∧ yL_credit.cls ≠ "java/lang/invoke/VarHandle" ∧ (parseMethodDescriptor yL_credit.desc).map (fun d => d.parameters.length) = some 3 := by decide +kernel
theorem md_L_send : yL_send.cls ≠ "java/lang/invoke/MethodHandle" ∧ yL_send.cls ≠ "java/lang/invoke/VarHandle" ∧ (parseMethodDescriptor yL_send.desc).map (fun d => d.parameters.length) = some 4 := by decide +kernel
theorem md_L_toReceiver : yL_toReceiver.cls ≠ "java/lang/invoke/MethodHandle" ∧ yL_toReceiver.cls ≠ "java/lang/invoke/VarHandle" ∧ (parseMethodDescriptor yL_toReceiver.desc).map (fun d => d.parameters.length) = some 3 := by decide +kernel
theorem md_L_toSender : yL_toSender.cls ≠ "java/lang/invoke/MethodHandle" ∧ yL_toSender.cls ≠ "java/lang/invoke/VarHandle" ∧ (parseMethodDescriptor yL_toSender.desc).map (fun d => d.parameters.length) = some 3 := by decide +kernel
theorem md_L_decide : yL_decide.cls ≠ "java/lang/invoke/MethodHandle" ∧ yL_decide.cls ≠ "java/lang/invoke/VarHandle" ∧ (parseMethodDescriptor yL_decide.desc).map (fun d => d.parameters.length) = some 4 := by decide +kernel
theorem md_L_forSender : yL_forSender.cls ≠ "java/lang/invoke/MethodHandle" ∧ yL_forSender.cls ≠ "java/lang/invoke/VarHandle" ∧ (parseMethodDescriptor yL_forSender.desc).map (fun d => d.parameters.length) = some 3 := by decide +kernel
theorem md_L_heard : yL_heard.cls ≠ "java/lang/invoke/MethodHandle" ∧ yL_heard.cls ≠ "java/lang/invoke/VarHandle" ∧ (parseMethodDescriptor yL_heard.desc).map (fun d => d.parameters.length) = some 3 := by decide +kernel
theorem md_L_forReceiver : yL_forReceiver.cls ≠ "java/lang/invoke/MethodHandle" ∧ yL_forReceiver.cls ≠ "java/lang/invoke/VarHandle" ∧ (parseMethodDescriptor yL_forReceiver.desc).map (fun d => d.parameters.length) = some 3 := by decide +kernel
theorem md_L_effects : yL_effects.cls ≠ "java/lang/invoke/MethodHandle" ∧ yL_effects.cls ≠ "java/lang/invoke/VarHandle" ∧ (parseMethodDescriptor yL_effects.desc).map (fun d => d.parameters.length) = some 3 := by decide +kernel
theorem md_L_breakOff : yL_breakOff.cls ≠ "java/lang/invoke/MethodHandle" ∧ yL_breakOff.cls ≠ "java/lang/invoke/VarHandle" ∧ (parseMethodDescriptor yL_breakOff.desc).map (fun d => d.parameters.length) = some 2 := by decide +kernel
theorem md_L_join : yL_join.cls ≠ "java/lang/invoke/MethodHandle" ∧ yL_join.cls ≠ "java/lang/invoke/VarHandle" ∧ (parseMethodDescriptor yL_join.desc).map (fun d => d.parameters.length) = some 2 := by decide +kernel
theorem md_L_begin : yL_begin.cls ≠ "java/lang/invoke/MethodHandle" ∧ yL_begin.cls ≠ "java/lang/invoke/VarHandle" ∧ (parseMethodDescriptor yL_begin.desc).map (fun d => d.parameters.length) = some 2 := by decide +kernel
theorem md_L_tell : yL_tell.cls ≠ "java/lang/invoke/MethodHandle" ∧ yL_tell.cls ≠ "java/lang/invoke/VarHandle" ∧ (parseMethodDescriptor yL_tell.desc).map (fun d => d.parameters.length) = some 4 := by decide +kernel
theorem md_L_end : yL_end.cls ≠ "java/lang/invoke/MethodHandle" ∧ yL_end.cls ≠ "java/lang/invoke/VarHandle" ∧ (parseMethodDescriptor yL_end.desc).map (fun d => d.parameters.length) = some 3 := by decide +kernel
theorem md_L_law : yL_law.cls ≠ "java/lang/invoke/MethodHandle" ∧ yL_law.cls ≠ "java/lang/invoke/VarHandle" ∧ (parseMethodDescriptor yL_law.desc).map (fun d => d.parameters.length) = some 1 := by decide +kernel
theorem xat_IAE : (vx_atS "CreditLinks" 55 "java/lang/IllegalArgumentException" xNames).all (fun w => (decide (w ∈ lw_tbl) && goodWord w) || decide (w ∈ xNG)) = true ∧ (vx_atS "CreditLinks" 55 "java/lang/IllegalArgumentException" xNames).all vx_ot = true := ⟨by decide +kernel, by decide +kernel⟩
theorem xat_ISE : (vx_atS "CreditLinks" 90 "java/lang/IllegalStateException" xNames).all (fun w => (decide (w ∈ lw_tbl) && goodWord w) || decide (w ∈ xNG)) = true ∧ (vx_atS "CreditLinks" 90 "java/lang/IllegalStateException" xNames).all vx_ot = true := ⟨by decide +kernel, by decide +kernel⟩
theorem xat_IOB : (vx_atS "CreditLinks" 184 "java/lang/IndexOutOfBoundsException" xNames).all (fun w => (decide (w ∈ lw_tbl) && goodWord w) || decide (w ∈ xNG)) = true ∧ (vx_atS "CreditLinks" 184 "java/lang/IndexOutOfBoundsException" xNames).all vx_ot = true := ⟨by decide +kernel, by decide +kernel⟩
end
section
/-! numbers, rings, lists: plain facts -/
theorem nring {a b : Nat} (h : a + b < 2 ^ 32) : (nI a + nI b) &&& 511 = nI ((a + b) % 512) := by
  rw [nI_add]
  exact pk_andN h 9 (by decide)
theorem nring0 {a : Nat} (h : a < 512) : nI a &&& 511 = nI a := by
  have h1 := pk_andN (n := a) (by omega) (m := 511) 9 (by decide)
  rw [Nat.mod_eq_of_lt (by omega)] at h1
  exact h1
theorem nsub {a b : Nat} (h : b ≤ a) : nI a - nI b = nI (a - b) := pk_sub h
theorem rw_nil (g : xRg) : rwOk [] (0, g.2.1, g.2.2.1, g.2.2.2) := ⟨by show (0 : Nat) < 512; decide, by show (0 : Nat) ≤ 512; decide, fun i x h => by simp at h⟩
theorem rw_hd {x : xFr} {q : List xFr} {g : xRg} (h : rwOk (x :: q) g) : g.2.1 g.1 = nI x.1 ∧ g.2.2.1 g.1 = nI x.2.1 ∧ g.2.2.2 g.1 = nI x.2.2 := by
  have h1 := h.2.2 0 x rfl
  rw [Nat.add_zero, Nat.mod_eq_of_lt h.1] at h1
  exact h1
theorem rw_tl {x : xFr} {q : List xFr} {g : xRg} (h : rwOk (x :: q) g) : rwOk q ((g.1 + 1) % 512, g.2.1, g.2.2.1, g.2.2.2) := by
  obtain ⟨h1, h2, h3⟩ := h
  refine ⟨Nat.mod_lt _ (by decide), by simp at h2; omega, fun i y hy => ?_⟩
  have h4 := h3 (i + 1) y (by simpa using hy)
  have e : ((g.1 + 1) % 512 + i) % 512 = (g.1 + (i + 1)) % 512 := by omega
  show g.2.1 (((g.1 + 1) % 512 + i) % 512) = _ ∧ g.2.2.1 (((g.1 + 1) % 512 + i) % 512) = _ ∧ g.2.2.2 (((g.1 + 1) % 512 + i) % 512) = _
  rw [e]
  exact h4
theorem rw_add {q : List xFr} {g : xRg} {a b c : Nat} (h : rwOk q g) (hl : q.length < 512) : rwOk (q ++ [(a, b, c)]) (g.1, upd g.2.1 ((g.1 + q.length) % 512) (nI a), upd g.2.2.1 ((g.1 + q.length) % 512) (nI b), upd g.2.2.2 ((g.1 + q.length) % 512) (nI c)) := by
  obtain ⟨h1, h2, h3⟩ := h
  refine ⟨h1, by rw [List.length_append]; simp; omega, fun i y hy => ?_⟩
  by_cases hi : i < q.length
  · rw [List.getElem?_append_left hi] at hy
    have hne : (g.1 + i) % 512 ≠ (g.1 + q.length) % 512 := by omega
    have h4 := h3 i y hy
    refine ⟨?_, ?_, ?_⟩
    · show upd _ _ _ _ = _
      rw [pk_un hne]; exact h4.1
    · show upd _ _ _ _ = _
      rw [pk_un hne]; exact h4.2.1
    · show upd _ _ _ _ = _
      rw [pk_un hne]; exact h4.2.2
  · rw [List.getElem?_append_right (by omega)] at hy
    have hz : i - q.length < 1 := (List.getElem?_eq_some_iff.mp hy).1
    have hi2 : i = q.length := by omega
    subst hi2
    rw [Nat.sub_self] at hy
    have hy2 : (a, b, c) = y := by simpa using hy
    subst hy2
    exact ⟨pk_us, pk_us, pk_us⟩
/-- x mod 16 as the low four bits -/
theorem w15_ex (x : Int32) : ∃ j : Nat, j < 16 ∧ x &&& 15 = nI j := by
  obtain ⟨j, h1, h2⟩ := pk_andE x (m := 15) 4 (by decide)
  exact ⟨j, h1, h2⟩
theorem w15_nI {n : Nat} (h : n < 2 ^ 32) : nI n &&& 15 = nI (n % 16) := pk_andN h 4 (by decide)
theorem w15_rem (x : Int32) : (x &&& 15).toInt = x.toInt % 16 := by
  have h := pk_and x (m := 15) 4 (by decide)
  have h2 : (x.toBitVec.toNat % 2 ^ 4) < 2 ^ 31 := by
    have := Nat.mod_lt x.toBitVec.toNat (show 0 < 2 ^ 4 by decide)
    omega
  rw [h, nI_toInt h2]
  have h3 : x.toInt = if 2 * x.toBitVec.toNat < 2 ^ 32 then (x.toBitVec.toNat : Int) else (x.toBitVec.toNat : Int) - ((2 ^ 32 : Nat) : Int) := BitVec.toInt_eq_toNat_cond x.toBitVec
  rw [h3]
  split <;> omega
/-- Math.floorMod(x, 16) -/
theorem fm_pos {x : Int32} (h : (x ^^^ 16) ≥ 0) : x - x / 16 * 16 = x &&& 15 := by
  have h1 := rem_toInt x 16
  have h2 := w15_rem x
  have hx : 0 ≤ x.toInt := by
    have h0 : (0 : Int) ≤ (x ^^^ 16).toInt := by
      have := Int32.le_iff_toInt_le.mp h
      simpa using this
    have m1 : (x ^^^ 16).toBitVec.msb = x.toBitVec.msb := by
      show (x.toBitVec ^^^ (16#32)).msb = _
      rw [BitVec.msb_xor, show (16#32 : BitVec 32).msb = false by decide, Bool.xor_false]
    have m2 : (x ^^^ 16).toBitVec.msb = false := by
      rw [BitVec.msb_eq_toInt]
      simp only [decide_eq_false_iff_not]
      intro hh
      have : (x ^^^ 16).toInt < 0 := hh
      omega
    rw [m1, BitVec.msb_eq_toInt] at m2
    simp only [decide_eq_false_iff_not] at m2
    have : ¬ x.toInt < 0 := m2
    omega
  apply Int32.toInt_inj.mp
  rw [h1, h2]
  exact Int.tmod_eq_emod_of_nonneg hx
theorem fm_neg {x : Int32} (h : ¬ (x ^^^ 16) ≥ 0) : (x - x / 16 * 16 = 0 → x - x / 16 * 16 = x &&& 15) ∧ (¬ x - x / 16 * 16 = 0 → x - x / 16 * 16 + 16 = x &&& 15) := by
  have h1 := rem_toInt x 16
  have h2 := w15_rem x
  have hx : x.toInt < 0 := by
    have h0 : (x ^^^ 16).toInt < 0 := by
      have hh : ¬ (0 : Int) ≤ (x ^^^ 16).toInt := fun q => h (Int32.le_iff_toInt_le.mpr (by simpa using q))
      omega
    have m1 : (x ^^^ 16).toBitVec.msb = x.toBitVec.msb := by
      show (x.toBitVec ^^^ (16#32)).msb = _
      rw [BitVec.msb_xor, show (16#32 : BitVec 32).msb = false by decide, Bool.xor_false]
    have m2 : (x ^^^ 16).toBitVec.msb = true := by
      rw [BitVec.msb_eq_toInt]
      simp only [decide_eq_true_eq]
      exact h0
    rw [m1, BitVec.msb_eq_toInt] at m2
    simp only [decide_eq_true_eq] at m2
    exact m2
  have e16 : (16 : Int32).toInt = 16 := by decide
  rw [e16] at h1
  have h3 : x.toInt.tmod 16 = -((-x.toInt) % 16) := by
    have : x.toInt = -(-x.toInt) := by omega
    rw [this, Int.neg_tmod, Int.tmod_eq_emod_of_nonneg (by omega)]
    omega
  constructor
  · intro hz
    apply Int32.toInt_inj.mp
    rw [h2, h1]
    have h4 : (x - x / 16 * 16).toInt = 0 := by rw [hz]; rfl
    rw [h1] at h4
    omega
  · intro hz
    have h4 : (x - x / 16 * 16).toInt ≠ 0 := fun q => hz (Int32.toInt_inj.mp (by rw [q]; rfl))
    rw [h1] at h4
    obtain ⟨j, hj, e⟩ : ∃ j : Nat, j < 16 ∧ x.toInt.tmod 16 = -(j : Int) := ⟨((-x.toInt) % 16).toNat, by omega, by omega⟩
    have h5 : x - x / 16 * 16 = nI 0 - nI j := by
      apply Int32.toInt_inj.mp
      rw [h1, e, pk_sub_toInt (by decide) (by omega)]
      omega
    have h6 : x - x / 16 * 16 + 16 = nI (16 - j) := by
      rw [h5]
      show nI 0 - nI j + nI 16 = _
      have : nI 0 - nI j + nI 16 = nI 16 - nI j := by
        rw [show nI 0 = 0 from rfl, Int32.sub_eq_add_neg, Int32.zero_add, Int32.add_comm, ← Int32.sub_eq_add_neg]
      rw [this, pk_sub (by omega)]
    apply Int32.toInt_inj.mp
    rw [h6, h2, nI_toInt (by omega)]
    omega
end
section
set_option maxRecDepth 100000 in
set_option maxHeartbeats 4000000 in
theorem c_J9_floorMod_7cf53 {l : Launch} (hl : l.stackTraces = false) (D : va_G) (e0 : Nat) {x : Int32}  : xC l yJ9_floorMod_7cf53 (.code yJ9_floorMod_7cf53 cJ9_floorMod_7cf53 3 (some .int)) ({ frames := 0, cells := 0, slots := 0, locals := 0 } : Room) D e0 [.int x, .int 16] [] (fun v cs => v = some (.int (x &&& 15)) ∧ cs = []) (fun _ => False) := by
  refine xC_of hl (by decide +kernel) (Nat.le_of_ble_eq_true rfl) (fun G X F => ?_)
  have B : xB l D e0 "java/lang/Math" cJ9_floorMod_7cf53 3 (some .int) [] _ G X := F.base
  show G 0 [(0, .int x), (1, .int 16)] [] [] 0 0
  refine x_iload_n B (pc := 0) 0 dJ9_floorMod_7cf53_0 rfl rfl ?_
  refine x_iload_n B (pc := 1) 1 dJ9_floorMod_7cf53_1 rfl rfl ?_
  refine x_irem B (pc := 2) dJ9_floorMod_7cf53_2 (by decide) ?_
  refine x_istore_n B (pc := 3) [(2, .int (x - x / 16 * 16)), (0, .int x), (1, .int 16)] dJ9_floorMod_7cf53_3 rfl (by decide) rfl ?_
  refine x_iload_n B (pc := 4) 1 dJ9_floorMod_7cf53_4 rfl rfl ?_
  refine x_iload_n B (pc := 5) 2 dJ9_floorMod_7cf53_5 rfl rfl ?_
  refine x_ixor B (pc := 6) dJ9_floorMod_7cf53_6 ?_
  refine x_if_ge B (pc := 7) 18 dJ9_floorMod_7cf53_7 (by decide) (fun h7 => ?_) (fun h7 => ?_)
  · skip
    refine x_iload_n B (pc := 18) 0 dJ9_floorMod_7cf53_18 rfl rfl ?_
    exact x_iret F (pc := 19) rfl dJ9_floorMod_7cf53_19 (⟨by first | rw [fm_pos h7] | rw [(fm_neg h7).1 h11], rfl⟩) (Nat.le_of_ble_eq_true rfl) (Nat.le_of_ble_eq_true rfl)
  · skip
    refine x_iload_n B (pc := 10) 0 dJ9_floorMod_7cf53_10 rfl rfl ?_
    refine x_if_eq B (pc := 11) 18 dJ9_floorMod_7cf53_11 (by decide) (fun h11 => ?_) (fun h11 => ?_)
    · skip
      refine x_iload_n B (pc := 18) 0 dJ9_floorMod_7cf53_18 rfl rfl ?_
      exact x_iret F (pc := 19) rfl dJ9_floorMod_7cf53_19 (⟨by first | rw [fm_pos h7] | rw [(fm_neg h7).1 h11], rfl⟩) (Nat.le_of_ble_eq_true rfl) (Nat.le_of_ble_eq_true rfl)
    · skip
      refine x_iload_n B (pc := 14) 0 dJ9_floorMod_7cf53_14 rfl rfl ?_
      refine x_iload_n B (pc := 15) 2 dJ9_floorMod_7cf53_15 rfl rfl ?_
      refine x_iadd B (pc := 16) dJ9_floorMod_7cf53_16 ?_
      exact x_iret F (pc := 17) rfl dJ9_floorMod_7cf53_17 (⟨by rw [(fm_neg h7).2 h11], rfl⟩) (Nat.le_of_ble_eq_true rfl) (Nat.le_of_ble_eq_true rfl)

set_option maxRecDepth 100000 in
set_option maxHeartbeats 4000000 in
theorem c_X3_wrapped {l : Launch} (hl : l.stackTraces = false) (D : va_G) (e0 : Nat) {x : Int32}  : xC l yX3_wrapped (.code yX3_wrapped cX3_wrapped 1 (some .int)) ({ frames := 1, cells := 0, slots := 0, locals := 22 } : Room) D e0 [.int x] [] (fun v cs => v = some (.int (x &&& 15)) ∧ cs = []) (fun _ => False) := by
  refine xC_of hl (by decide +kernel) (Nat.le_of_ble_eq_true rfl) (fun G X F => ?_)
  have B : xB l D e0 "CreditLinks" cX3_wrapped 1 (some .int) [] _ G X := F.base
  show G 0 [(0, .int x)] [] [] 0 0
  refine x_iload_n B (pc := 0) 0 dX3_wrapped_0 rfl rfl ?_
  refine x_bipush B (pc := 1) 16 dX3_wrapped_1 (by decide) ?_
  refine x_callS B (pc := 3) (As := [.int x, .int 16]) (c_J9_floorMod_7cf53 hl D e0 ) tm302 tm303 tm14 tm304 md_J9_floorMod_7cf53 ⟨Nat.le_of_ble_eq_true rfl, Nat.le_of_ble_eq_true rfl⟩ [] rfl rfl rfl (Nat.le_of_ble_eq_true rfl) (Nat.le_of_ble_eq_true rfl) (Nat.le_of_ble_eq_true rfl) dX3_wrapped_3 (fun E hE => False.elim hE) (fun v cs1 hp => ?_)
  obtain ⟨rfl, rfl⟩ := hp
  show G 6 [(0, .int x)] [.int (x &&& 15)] [] 0 0
  exact x_iret F (pc := 6) rfl dX3_wrapped_6 (⟨rfl, rfl⟩) (Nat.le_of_ble_eq_true rfl) (Nat.le_of_ble_eq_true rfl)

set_option maxRecDepth 100000 in
set_option maxHeartbeats 4000000 in
theorem c_X2_length {l : Launch} (hl : l.stackTraces = false) (D : va_G) (e0 : Nat) {r ka sa va : Nat} {q : List xFr} {g : xRg}  : xC l yX2_length (.code yX2_length cX2_length 1 (some .int)) ({ frames := 0, cells := 0, slots := 0, locals := 0 } : Room) D e0 [.ref r] [rwW D r ka sa va g q.length] (fun v cs => v = some (.int (nI q.length)) ∧ cs = [rwW D r ka sa va g q.length]) (fun _ => False) := by
  refine xC_of hl (by decide +kernel) (Nat.le_of_ble_eq_true rfl) (fun G X F => ?_)
  have B : xB l D e0 "CreditLinks$Row" cX2_length 1 (some .int) [] _ G X := F.base
  show G 0 [(0, .ref r)] [] [rwW D r ka sa va g q.length] 0 0
  refine x_aload_n B (pc := 0) 0 dX2_length_0 rfl rfl ?_
  refine x_get B (pc := 1) xcl_R 0 0 4 rfl rfl (by decide) tm67 rfl rfl dX2_length_1 ?_
  exact x_iret F (pc := 4) rfl dX2_length_4 (⟨rfl, rfl⟩) (Nat.le_of_ble_eq_true rfl) (Nat.le_of_ble_eq_true rfl)

set_option maxRecDepth 100000 in
set_option maxHeartbeats 4000000 in
theorem c_X2_add {l : Launch} (hl : l.stackTraces = false) (D : va_G) (e0 : Nat) {r ka sa va : Nat} {q : List xFr} {g : xRg} {a b c : Nat} (hq : rwOk q g) (hl9 : q.length < 512) : xC l yX2_add (.code yX2_add cX2_add 5 none) ({ frames := 0, cells := 0, slots := 0, locals := 0 } : Room) D e0 [.ref r, .int (nI a), .int (nI b), .int (nI c)] [rwW D r ka sa va g q.length] (fun v cs => v = none ∧ ∃ g1, rwOk (q ++ [(a, b, c)]) g1 ∧ cs = [rwW D r ka sa va g1 (q.length + 1)]) (fun _ => False) := by
  refine xC_of hl (by decide +kernel) (Nat.le_of_ble_eq_true rfl) (fun G X F => ?_)
  have B : xB l D e0 "CreditLinks$Row" cX2_add 5 none [] _ G X := F.base
  show G 0 [(0, .ref r), (1, .int (nI a)), (2, .int (nI b)), (3, .int (nI c))] [] [rwW D r ka sa va g q.length] 0 0
  have hg9 := hq.1
  refine x_aload_n B (pc := 0) 0 dX2_add_0 rfl rfl ?_
  refine x_get B (pc := 1) xcl_R 0 0 4 rfl rfl (by decide) tm67 rfl rfl dX2_add_1 ?_
  refine x_sipush B (pc := 4) 512 dX2_add_4 (by decide) ?_
  refine x_icmp_lt B (pc := 7) 11 dX2_add_7 (by decide) (fun h7 => ?_) (fun h7 => absurd (nI_lt (b := 512) hl9 (by decide)) h7)
  refine x_aload_n B (pc := 11) 0 dX2_add_11 rfl rfl ?_
  refine x_get B (pc := 12) xcl_R 0 0 3 rfl rfl (by decide) tm66 rfl rfl dX2_add_12 ?_
  refine x_aload_n B (pc := 15) 0 dX2_add_15 rfl rfl ?_
  refine x_get B (pc := 16) xcl_R 0 0 4 rfl rfl (by decide) tm67 rfl rfl dX2_add_16 ?_
  refine x_iadd B (pc := 19) dX2_add_19 ?_
  refine x_sipush B (pc := 20) 511 dX2_add_20 (by decide) ?_
  refine x_iand B (pc := 23) dX2_add_23 ?_
  refine x_val B (y := nI ((g.1 + q.length) % 512)) (nring (by omega)) ?_
  refine x_istore B (pc := 24) [(4, .int (nI ((g.1 + q.length) % 512))), (0, .ref r), (1, .int (nI a)), (2, .int (nI b)), (3, .int (nI c))] dX2_add_24 (by decide) rfl ?_
  refine x_aload_n B (pc := 26) 1 dX2_add_26 rfl rfl ?_
  refine x_get B (pc := 27) xcl_R 0 0 0 rfl rfl (by decide) tm63 rfl rfl dX2_add_27 ?_
  refine x_iload B (pc := 30) 0 dX2_add_30 rfl ?_
  refine x_iload_n B (pc := 32) 2 dX2_add_32 rfl rfl ?_
  refine x_iastN B (pc := 33) ((g.1 + q.length) % 512) 0 1 [rwW D r ka sa va (g.1, upd g.2.1 ((g.1 + q.length) % 512) (nI a), g.2.2.1, g.2.2.2) q.length] (Nat.mod_lt _ (by decide)) (by decide) rfl rfl rfl rfl dX2_add_33 ?_
  refine x_aload_n B (pc := 34) 1 dX2_add_34 rfl rfl ?_
  refine x_get B (pc := 35) xcl_R 0 0 1 rfl rfl (by decide) tm64 rfl rfl dX2_add_35 ?_
  refine x_iload B (pc := 38) 0 dX2_add_38 rfl ?_
  refine x_iload_n B (pc := 40) 3 dX2_add_40 rfl rfl ?_
  refine x_iastN B (pc := 41) ((g.1 + q.length) % 512) 0 2 [rwW D r ka sa va (g.1, upd g.2.1 ((g.1 + q.length) % 512) (nI a), upd g.2.2.1 ((g.1 + q.length) % 512) (nI b), g.2.2.2) q.length] (Nat.mod_lt _ (by decide)) (by decide) rfl rfl rfl rfl dX2_add_41 ?_
  refine x_aload_n B (pc := 42) 1 dX2_add_42 rfl rfl ?_
  refine x_get B (pc := 43) xcl_R 0 0 2 rfl rfl (by decide) tm65 rfl rfl dX2_add_43 ?_
  refine x_iload B (pc := 46) 0 dX2_add_46 rfl ?_
  refine x_iload_n B (pc := 48) 4 dX2_add_48 rfl rfl ?_
  refine x_iastN B (pc := 49) ((g.1 + q.length) % 512) 0 3 [rwW D r ka sa va (g.1, upd g.2.1 ((g.1 + q.length) % 512) (nI a), upd g.2.2.1 ((g.1 + q.length) % 512) (nI b), upd g.2.2.2 ((g.1 + q.length) % 512) (nI c)) q.length] (Nat.mod_lt _ (by decide)) (by decide) rfl rfl rfl rfl dX2_add_49 ?_
  refine x_aload_n B (pc := 50) 1 dX2_add_50 rfl rfl ?_
  refine x_dup B (pc := 51) dX2_add_51 rfl ?_
  refine x_get B (pc := 52) xcl_R 0 0 4 rfl rfl (by decide) tm67 rfl rfl dX2_add_52 ?_
  refine x_iconst B (pc := 55) 1 dX2_add_55 (by decide) ?_
  refine x_iadd B (pc := 56) dX2_add_56 ?_
  refine x_val B (y := nI (q.length + 1)) (nI_1 _) ?_
  refine x_put B (pc := 57) xcl_R 0 0 4 [rwW D r ka sa va (g.1, upd g.2.1 ((g.1 + q.length) % 512) (nI a), upd g.2.2.1 ((g.1 + q.length) % 512) (nI b), upd g.2.2.2 ((g.1 + q.length) % 512) (nI c)) (q.length + 1)] rfl rfl (by decide) tm67 rfl rfl rfl rfl rfl (Nat.le_of_ble_eq_true rfl) rfl rfl dX2_add_57 ?_
  exact x_vret F (pc := 60) rfl dX2_add_60 (⟨rfl, _, rw_add hq hl9, rfl⟩) (Nat.le_of_ble_eq_true rfl) (Nat.le_of_ble_eq_true rfl)

set_option maxRecDepth 100000 in
set_option maxHeartbeats 4000000 in
theorem c_X2_firstKind {l : Launch} (hl : l.stackTraces = false) (D : va_G) (e0 : Nat) {r ka sa va : Nat} {x9 : xFr} {q : List xFr} {g : xRg} (hq : rwOk (x9 :: q) g) : xC l yX2_firstKind (.code yX2_firstKind cX2_firstKind 1 (some .int)) ({ frames := 0, cells := 0, slots := 0, locals := 0 } : Room) D e0 [.ref r] [rwW D r ka sa va g (q.length + 1)] (fun v cs => v = some (.int (nI x9.1)) ∧ cs = [rwW D r ka sa va g (q.length + 1)]) (fun _ => False) := by
  refine xC_of hl (by decide +kernel) (Nat.le_of_ble_eq_true rfl) (fun G X F => ?_)
  have B : xB l D e0 "CreditLinks$Row" cX2_firstKind 1 (some .int) [] _ G X := F.base
  show G 0 [(0, .ref r)] [] [rwW D r ka sa va g (q.length + 1)] 0 0
  have hg9 := hq.1
  refine x_aload_n B (pc := 0) 0 dX2_firstKind_0 rfl rfl ?_
  refine x_get B (pc := 1) xcl_R 0 0 0 rfl rfl (by decide) tm63 rfl rfl dX2_firstKind_1 ?_
  refine x_aload_n B (pc := 4) 0 dX2_firstKind_4 rfl rfl ?_
  refine x_get B (pc := 5) xcl_R 0 0 3 rfl rfl (by decide) tm66 rfl rfl dX2_firstKind_5 ?_
  refine x_sipush B (pc := 8) 511 dX2_firstKind_8 (by decide) ?_
  refine x_iand B (pc := 11) dX2_firstKind_11 ?_
  refine x_val B (y := nI g.1) (nring0 hg9) ?_
  refine x_ialdN B (pc := 12) g.1 0 1 (by omega) (by decide) rfl rfl dX2_firstKind_12 ?_
  exact x_iret F (pc := 13) rfl dX2_firstKind_13 (⟨by rw [(rw_hd hq).1], rfl⟩) (Nat.le_of_ble_eq_true rfl) (Nat.le_of_ble_eq_true rfl)

set_option maxRecDepth 100000 in
set_option maxHeartbeats 4000000 in
theorem c_X2_firstSubject {l : Launch} (hl : l.stackTraces = false) (D : va_G) (e0 : Nat) {r ka sa va : Nat} {x9 : xFr} {q : List xFr} {g : xRg} (hq : rwOk (x9 :: q) g) : xC l yX2_firstSubject (.code yX2_firstSubject cX2_firstSubject 1 (some .int)) ({ frames := 0, cells := 0, slots := 0, locals := 0 } : Room) D e0 [.ref r] [rwW D r ka sa va g (q.length + 1)] (fun v cs => v = some (.int (nI x9.2.1)) ∧ cs = [rwW D r ka sa va g (q.length + 1)]) (fun _ => False) := by
  refine xC_of hl (by decide +kernel) (Nat.le_of_ble_eq_true rfl) (fun G X F => ?_)
  have B : xB l D e0 "CreditLinks$Row" cX2_firstSubject 1 (some .int) [] _ G X := F.base
  show G 0 [(0, .ref r)] [] [rwW D r ka sa va g (q.length + 1)] 0 0
  have hg9 := hq.1
  refine x_aload_n B (pc := 0) 0 dX2_firstSubject_0 rfl rfl ?_
  refine x_get B (pc := 1) xcl_R 0 0 1 rfl rfl (by decide) tm64 rfl rfl dX2_firstSubject_1 ?_
  refine x_aload_n B (pc := 4) 0 dX2_firstSubject_4 rfl rfl ?_
  refine x_get B (pc := 5) xcl_R 0 0 3 rfl rfl (by decide) tm66 rfl rfl dX2_firstSubject_5 ?_
  refine x_sipush B (pc := 8) 511 dX2_firstSubject_8 (by decide) ?_
  refine x_iand B (pc := 11) dX2_firstSubject_11 ?_
  refine x_val B (y := nI g.1) (nring0 hg9) ?_
  refine x_ialdN B (pc := 12) g.1 0 2 (by omega) (by decide) rfl rfl dX2_firstSubject_12 ?_
  exact x_iret F (pc := 13) rfl dX2_firstSubject_13 (⟨by rw [(rw_hd hq).2.1], rfl⟩) (Nat.le_of_ble_eq_true rfl) (Nat.le_of_ble_eq_true rfl)

set_option maxRecDepth 100000 in
set_option maxHeartbeats 4000000 in
theorem c_X2_firstValue {l : Launch} (hl : l.stackTraces = false) (D : va_G) (e0 : Nat) {r ka sa va : Nat} {x9 : xFr} {q : List xFr} {g : xRg} (hq : rwOk (x9 :: q) g) : xC l yX2_firstValue (.code yX2_firstValue cX2_firstValue 1 (some .int)) ({ frames := 0, cells := 0, slots := 0, locals := 0 } : Room) D e0 [.ref r] [rwW D r ka sa va g (q.length + 1)] (fun v cs => v = some (.int (nI x9.2.2)) ∧ cs = [rwW D r ka sa va g (q.length + 1)]) (fun _ => False) := by
  refine xC_of hl (by decide +kernel) (Nat.le_of_ble_eq_true rfl) (fun G X F => ?_)
  have B : xB l D e0 "CreditLinks$Row" cX2_firstValue 1 (some .int) [] _ G X := F.base
  show G 0 [(0, .ref r)] [] [rwW D r ka sa va g (q.length + 1)] 0 0
  have hg9 := hq.1
  refine x_aload_n B (pc := 0) 0 dX2_firstValue_0 rfl rfl ?_
  refine x_get B (pc := 1) xcl_R 0 0 2 rfl rfl (by decide) tm65 rfl rfl dX2_firstValue_1 ?_
  refine x_aload_n B (pc := 4) 0 dX2_firstValue_4 rfl rfl ?_
  refine x_get B (pc := 5) xcl_R 0 0 3 rfl rfl (by decide) tm66 rfl rfl dX2_firstValue_5 ?_
  refine x_sipush B (pc := 8) 511 dX2_firstValue_8 (by decide) ?_
  refine x_iand B (pc := 11) dX2_firstValue_11 ?_
  refine x_val B (y := nI g.1) (nring0 hg9) ?_
  refine x_ialdN B (pc := 12) g.1 0 3 (by omega) (by decide) rfl rfl dX2_firstValue_12 ?_
  exact x_iret F (pc := 13) rfl dX2_firstValue_13 (⟨by rw [(rw_hd hq).2.2], rfl⟩) (Nat.le_of_ble_eq_true rfl) (Nat.le_of_ble_eq_true rfl)

set_option maxRecDepth 100000 in
set_option maxHeartbeats 4000000 in
theorem c_X2_dropFirst {l : Launch} (hl : l.stackTraces = false) (D : va_G) (e0 : Nat) {r ka sa va : Nat} {x9 : xFr} {q : List xFr} {g : xRg} (hq : rwOk (x9 :: q) g) : xC l yX2_dropFirst (.code yX2_dropFirst cX2_dropFirst 1 none) ({ frames := 0, cells := 0, slots := 0, locals := 0 } : Room) D e0 [.ref r] [rwW D r ka sa va g (q.length + 1)] (fun v cs => v = none ∧ ∃ g1, rwOk q g1 ∧ cs = [rwW D r ka sa va g1 q.length]) (fun _ => False) := by
  refine xC_of hl (by decide +kernel) (Nat.le_of_ble_eq_true rfl) (fun G X F => ?_)
  have B : xB l D e0 "CreditLinks$Row" cX2_dropFirst 1 none [] _ G X := F.base
  show G 0 [(0, .ref r)] [] [rwW D r ka sa va g (q.length + 1)] 0 0
  have hg9 := hq.1
  have hl9 : q.length + 1 ≤ 512 := hq.2.1
  refine x_aload_n B (pc := 0) 0 dX2_dropFirst_0 rfl rfl ?_
  refine x_get B (pc := 1) xcl_R 0 0 4 rfl rfl (by decide) tm67 rfl rfl dX2_dropFirst_1 ?_
  refine x_if_le B (pc := 4) 31 dX2_dropFirst_4 (by decide) (fun h4 => absurd h4 (nI_nle (by omega) (by omega))) (fun h4 => ?_)
  refine x_aload_n B (pc := 7) 0 dX2_dropFirst_7 rfl rfl ?_
  refine x_aload_n B (pc := 8) 0 dX2_dropFirst_8 rfl rfl ?_
  refine x_get B (pc := 9) xcl_R 0 0 3 rfl rfl (by decide) tm66 rfl rfl dX2_dropFirst_9 ?_
  refine x_iconst B (pc := 12) 1 dX2_dropFirst_12 (by decide) ?_
  refine x_iadd B (pc := 13) dX2_dropFirst_13 ?_
  refine x_sipush B (pc := 14) 511 dX2_dropFirst_14 (by decide) ?_
  refine x_iand B (pc := 17) dX2_dropFirst_17 ?_
  refine x_val B (y := nI ((g.1 + 1) % 512)) (nring (a := g.1) (b := 1) (by omega)) ?_
  refine x_put B (pc := 18) xcl_R 0 0 3 [rwW D r ka sa va (((g.1 + 1) % 512), g.2.1, g.2.2.1, g.2.2.2) (q.length + 1)] rfl rfl (by decide) tm66 rfl rfl rfl rfl rfl (Nat.le_of_ble_eq_true rfl) rfl rfl dX2_dropFirst_18 ?_
  refine x_aload_n B (pc := 21) 0 dX2_dropFirst_21 rfl rfl ?_
  refine x_dup B (pc := 22) dX2_dropFirst_22 rfl ?_
  refine x_get B (pc := 23) xcl_R 0 0 4 rfl rfl (by decide) tm67 rfl rfl dX2_dropFirst_23 ?_
  refine x_iconst B (pc := 26) 1 dX2_dropFirst_26 (by decide) ?_
  refine x_isub B (pc := 27) dX2_dropFirst_27 ?_
  refine x_val B (y := nI q.length) (nI_pred _) ?_
  refine x_put B (pc := 28) xcl_R 0 0 4 [rwW D r ka sa va (((g.1 + 1) % 512), g.2.1, g.2.2.1, g.2.2.2) q.length] rfl rfl (by decide) tm67 rfl rfl rfl rfl rfl (Nat.le_of_ble_eq_true rfl) rfl rfl dX2_dropFirst_28 ?_
  exact x_vret F (pc := 31) rfl dX2_dropFirst_31 (⟨rfl, _, rw_tl hq, rfl⟩) (Nat.le_of_ble_eq_true rfl) (Nat.le_of_ble_eq_true rfl)

set_option maxRecDepth 100000 in
set_option maxHeartbeats 4000000 in
theorem c_X2_drop {l : Launch} (hl : l.stackTraces = false) (D : va_G) (e0 : Nat) {r ka sa va : Nat} {q : List xFr} {g : xRg}  : xC l yX2_drop (.code yX2_drop cX2_drop 1 none) ({ frames := 0, cells := 0, slots := 0, locals := 0 } : Room) D e0 [.ref r] [rwW D r ka sa va g q.length] (fun v cs => v = none ∧ ∃ g1, rwOk [] g1 ∧ cs = [rwW D r ka sa va g1 0]) (fun _ => False) := by
  refine xC_of hl (by decide +kernel) (Nat.le_of_ble_eq_true rfl) (fun G X F => ?_)
  have B : xB l D e0 "CreditLinks$Row" cX2_drop 1 none [] _ G X := F.base
  show G 0 [(0, .ref r)] [] [rwW D r ka sa va g q.length] 0 0
  refine x_aload_n B (pc := 0) 0 dX2_drop_0 rfl rfl ?_
  refine x_iconst B (pc := 1) 0 dX2_drop_1 (by decide) ?_
  refine x_val B (y := nI 0) rfl ?_
  refine x_put B (pc := 2) xcl_R 0 0 3 [rwW D r ka sa va (0, g.2.1, g.2.2.1, g.2.2.2) q.length] rfl rfl (by decide) tm66 rfl rfl rfl rfl rfl (Nat.le_of_ble_eq_true rfl) rfl rfl dX2_drop_2 ?_
  refine x_aload_n B (pc := 5) 0 dX2_drop_5 rfl rfl ?_
  refine x_iconst B (pc := 6) 0 dX2_drop_6 (by decide) ?_
  refine x_val B (y := nI 0) rfl ?_
  refine x_put B (pc := 7) xcl_R 0 0 4 [rwW D r ka sa va (0, g.2.1, g.2.2.1, g.2.2.2) 0] rfl rfl (by decide) tm67 rfl rfl rfl rfl rfl (Nat.le_of_ble_eq_true rfl) rfl rfl dX2_drop_7 ?_
  exact x_vret F (pc := 10) rfl dX2_drop_10 (⟨rfl, _, rw_nil g, rfl⟩) (Nat.le_of_ble_eq_true rfl) (Nat.le_of_ble_eq_true rfl)

set_option maxRecDepth 100000 in
set_option maxHeartbeats 4000000 in
theorem c_X1_creditLeft {l : Launch} (hl : l.stackTraces = false) (D : va_G) (e0 : Nat) {ad : Nat → Nat} {S : xS} {j : Nat} (hj : j < 4) : xC l yX1_creditLeft (.code yX1_creditLeft cX1_creditLeft 1 (some .int)) ({ frames := 2, cells := 0, slots := 0, locals := 42 } : Room) D e0 [.ref (ad (6 + j))] [lkW D ad S] (fun v cs => v = some (.int ((S 2 j - S 1 j) &&& 15)) ∧ cs = [lkW D ad S]) (fun _ => False) := by
  refine xC_of hl (by decide +kernel) (Nat.le_of_ble_eq_true rfl) (fun G X F => ?_)
  have B : xB l D e0 "CreditLinks$Link" cX1_creditLeft 1 (some .int) [] _ G X := F.base
  show G 0 [(0, .ref (ad (6 + j)))] [] [lkW D ad S] 0 0
  refine x_aload_n B (pc := 0) 0 dX1_creditLeft_0 rfl rfl ?_
  refine x_get B (pc := 1) xcl_L 0 (j + 1) 2 rfl (lk_get hj) (by decide) tm88 rfl rfl dX1_creditLeft_1 ?_
  refine x_aload_n B (pc := 4) 0 dX1_creditLeft_4 rfl rfl ?_
  refine x_get B (pc := 5) xcl_L 0 (j + 1) 1 rfl (lk_get hj) (by decide) tm87 rfl rfl dX1_creditLeft_5 ?_
  refine x_isub B (pc := 8) dX1_creditLeft_8 ?_
  refine x_callSN B (pc := 9) (As := [.int ((S 2 j) - (S 1 j))]) (c_X3_wrapped hl D e0 ) (by decide +kernel) tm300 tm1 tm301 md_X3_wrapped ⟨Nat.le_of_ble_eq_true rfl, Nat.le_of_ble_eq_true rfl⟩ [] rfl rfl rfl (Nat.le_of_ble_eq_true rfl) (Nat.le_of_ble_eq_true rfl) (Nat.le_of_ble_eq_true rfl) dX1_creditLeft_9 (fun E hE => False.elim hE) (fun v cs1 hp => ?_)
  obtain ⟨rfl, rfl⟩ := hp
  show G 12 [(0, .ref (ad (6 + j)))] [.int ((S 2 j - S 1 j) &&& 15)] [lkW D ad S] 0 0
  exact x_iret F (pc := 12) rfl dX1_creditLeft_12 (⟨rfl, rfl⟩) (Nat.le_of_ble_eq_true rfl) (Nat.le_of_ble_eq_true rfl)

set_option maxRecDepth 100000 in
set_option maxHeartbeats 4000000 in
theorem c_X1_countSent {l : Launch} (hl : l.stackTraces = false) (D : va_G) (e0 : Nat) {ad : Nat → Nat} {S : xS} {j : Nat} (hj : j < 4) : xC l yX1_countSent (.code yX1_countSent cX1_countSent 1 none) ({ frames := 2, cells := 0, slots := 0, locals := 42 } : Room) D e0 [.ref (ad (6 + j))] [lkW D ad S] (fun v cs => v = none ∧ cs = [lkW D ad (xup S 1 j ((S 1 j + 1) &&& 15))]) (fun _ => False) := by
  refine xC_of hl (by decide +kernel) (Nat.le_of_ble_eq_true rfl) (fun G X F => ?_)
  have B : xB l D e0 "CreditLinks$Link" cX1_countSent 1 none [] _ G X := F.base
  show G 0 [(0, .ref (ad (6 + j)))] [] [lkW D ad S] 0 0
  refine x_aload_n B (pc := 0) 0 dX1_countSent_0 rfl rfl ?_
  refine x_aload_n B (pc := 1) 0 dX1_countSent_1 rfl rfl ?_
  refine x_get B (pc := 2) xcl_L 0 (j + 1) 1 rfl (lk_get hj) (by decide) tm87 rfl rfl dX1_countSent_2 ?_
  refine x_iconst B (pc := 5) 1 dX1_countSent_5 (by decide) ?_
  refine x_iadd B (pc := 6) dX1_countSent_6 ?_
  refine x_callSN B (pc := 7) (As := [.int ((S 1 j) + 1)]) (c_X3_wrapped hl D e0 ) (by decide +kernel) tm300 tm1 tm301 md_X3_wrapped ⟨Nat.le_of_ble_eq_true rfl, Nat.le_of_ble_eq_true rfl⟩ [] rfl rfl rfl (Nat.le_of_ble_eq_true rfl) (Nat.le_of_ble_eq_true rfl) (Nat.le_of_ble_eq_true rfl) dX1_countSent_7 (fun E hE => False.elim hE) (fun v cs1 hp => ?_)
  obtain ⟨rfl, rfl⟩ := hp
  show G 10 [(0, .ref (ad (6 + j)))] [.int ((S 1 j + 1) &&& 15), .ref (ad (6 + j))] [lkW D ad S] 0 0
  refine x_put B (pc := 10) xcl_L 0 (j + 1) 1 [lkW D ad (xup S 1 j ((S 1 j + 1) &&& 15))] rfl (lk_get hj) (by decide) tm87 rfl rfl rfl rfl rfl (Nat.le_of_ble_eq_true rfl) (lk_set1 hj) rfl dX1_countSent_10 ?_
  exact x_vret F (pc := 13) rfl dX1_countSent_13 (⟨rfl, rfl⟩) (Nat.le_of_ble_eq_true rfl) (Nat.le_of_ble_eq_true rfl)

set_option maxRecDepth 100000 in
set_option maxHeartbeats 4000000 in
theorem c_X1_countCome {l : Launch} (hl : l.stackTraces = false) (D : va_G) (e0 : Nat) {ad : Nat → Nat} {S : xS} {j : Nat} (hj : j < 4) : xC l yX1_countCome (.code yX1_countCome cX1_countCome 1 none) ({ frames := 2, cells := 0, slots := 0, locals := 42 } : Room) D e0 [.ref (ad (6 + j))] [lkW D ad S] (fun v cs => v = none ∧ cs = [lkW D ad (xup S 3 j ((S 3 j + 1) &&& 15))]) (fun _ => False) := by
  refine xC_of hl (by decide +kernel) (Nat.le_of_ble_eq_true rfl) (fun G X F => ?_)
  have B : xB l D e0 "CreditLinks$Link" cX1_countCome 1 none [] _ G X := F.base
  show G 0 [(0, .ref (ad (6 + j)))] [] [lkW D ad S] 0 0
  refine x_aload_n B (pc := 0) 0 dX1_countCome_0 rfl rfl ?_
  refine x_aload_n B (pc := 1) 0 dX1_countCome_1 rfl rfl ?_
  refine x_get B (pc := 2) xcl_L 0 (j + 1) 3 rfl (lk_get hj) (by decide) tm90 rfl rfl dX1_countCome_2 ?_
  refine x_iconst B (pc := 5) 1 dX1_countCome_5 (by decide) ?_
  refine x_iadd B (pc := 6) dX1_countCome_6 ?_
  refine x_callSN B (pc := 7) (As := [.int ((S 3 j) + 1)]) (c_X3_wrapped hl D e0 ) (by decide +kernel) tm300 tm1 tm301 md_X3_wrapped ⟨Nat.le_of_ble_eq_true rfl, Nat.le_of_ble_eq_true rfl⟩ [] rfl rfl rfl (Nat.le_of_ble_eq_true rfl) (Nat.le_of_ble_eq_true rfl) (Nat.le_of_ble_eq_true rfl) dX1_countCome_7 (fun E hE => False.elim hE) (fun v cs1 hp => ?_)
  obtain ⟨rfl, rfl⟩ := hp
  show G 10 [(0, .ref (ad (6 + j)))] [.int ((S 3 j + 1) &&& 15), .ref (ad (6 + j))] [lkW D ad S] 0 0
  refine x_put B (pc := 10) xcl_L 0 (j + 1) 3 [lkW D ad (xup S 3 j ((S 3 j + 1) &&& 15))] rfl (lk_get hj) (by decide) tm90 rfl rfl rfl rfl rfl (Nat.le_of_ble_eq_true rfl) (lk_set3 hj) rfl dX1_countCome_10 ?_
  exact x_vret F (pc := 13) rfl dX1_countCome_13 (⟨rfl, rfl⟩) (Nat.le_of_ble_eq_true rfl) (Nat.le_of_ble_eq_true rfl)

set_option maxRecDepth 100000 in
set_option maxHeartbeats 4000000 in
theorem c_X1_startAgain {l : Launch} (hl : l.stackTraces = false) (D : va_G) (e0 : Nat) {ad : Nat → Nat} {S : xS} {j : Nat} (hj : j < 4) : xC l yX1_startAgain (.code yX1_startAgain cX1_startAgain 1 none) ({ frames := 0, cells := 0, slots := 0, locals := 0 } : Room) D e0 [.ref (ad (6 + j))] [lkW D ad S] (fun v cs => v = none ∧ cs = [lkW D ad (xup (xup S 3 j (S 1 j)) 2 j (S 1 j))]) (fun _ => False) := by
  refine xC_of hl (by decide +kernel) (Nat.le_of_ble_eq_true rfl) (fun G X F => ?_)
  have B : xB l D e0 "CreditLinks$Link" cX1_startAgain 1 none [] _ G X := F.base
  show G 0 [(0, .ref (ad (6 + j)))] [] [lkW D ad S] 0 0
  refine x_aload_n B (pc := 0) 0 dX1_startAgain_0 rfl rfl ?_
  refine x_aload_n B (pc := 1) 0 dX1_startAgain_1 rfl rfl ?_
  refine x_get B (pc := 2) xcl_L 0 (j + 1) 1 rfl (lk_get hj) (by decide) tm87 rfl rfl dX1_startAgain_2 ?_
  refine x_put B (pc := 5) xcl_L 0 (j + 1) 3 [lkW D ad (xup S 3 j (S 1 j))] rfl (lk_get hj) (by decide) tm90 rfl rfl rfl rfl rfl (Nat.le_of_ble_eq_true rfl) (lk_set3 hj) rfl dX1_startAgain_5 ?_
  refine x_aload_n B (pc := 8) 0 dX1_startAgain_8 rfl rfl ?_
  refine x_aload_n B (pc := 9) 0 dX1_startAgain_9 rfl rfl ?_
  refine x_get B (pc := 10) xcl_L 0 (j + 1) 1 rfl (lk_get hj) (by decide) tm87 rfl rfl dX1_startAgain_10 ?_
  refine x_put B (pc := 13) xcl_L 0 (j + 1) 2 [lkW D ad (xup (xup S 3 j (S 1 j)) 2 j ((xup S 3 j (S 1 j)) 1 j))] rfl (lk_get hj) (by decide) tm88 rfl rfl rfl rfl rfl (Nat.le_of_ble_eq_true rfl) (lk_set2 hj) rfl dX1_startAgain_13 ?_
  exact x_vret F (pc := 16) rfl dX1_startAgain_16 (⟨rfl, rfl⟩) (Nat.le_of_ble_eq_true rfl) (Nat.le_of_ble_eq_true rfl)
end
