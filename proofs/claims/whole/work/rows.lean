section
-- ===== PART A: goes FIRST, ahead of the names: the tables' words, and 'selects' of the private methods out of them =====
/-- a private method of a class that the tables say can be made, by its rows of tables_1 -/
def lw_okq (q : MethodName × Nat) : Prop := (q.1.cls ≠ "java/lang/invoke/MethodHandle" ∧ q.1.cls ≠ "java/lang/invoke/VarHandle") ∧ Cond.instantiable q.1.cls q.2 ∈ tables_1 ∧ Cond.privateMethod q.1 ∈ tables_1 ∧ Cond.instanceMethod q.1 ∈ tables_1
theorem lw_p0 : lw_okq (⟨"TabledExecutive$TaskList", "isCommonMultiple", "(I)Z"⟩, 2) := ⟨⟨by decide +kernel, by decide +kernel⟩, List.mem_of_getElem? (i := 26) (by decide +kernel), List.mem_of_getElem? (i := 193) (by decide +kernel), List.mem_of_getElem? (i := 194) (by decide +kernel)⟩
theorem lw_p1 : lw_okq (⟨"TabledExecutive", "needEdit", "()V"⟩, 8) := ⟨⟨by decide +kernel, by decide +kernel⟩, List.mem_of_getElem? (i := 18) (by decide +kernel), List.mem_of_getElem? (i := 214) (by decide +kernel), List.mem_of_getElem? (i := 215) (by decide +kernel)⟩
theorem lw_p2 : lw_okq (⟨"java/lang/Throwable", "fillInStackTrace", "(I)Ljava/lang/Throwable;"⟩, 6) := ⟨⟨by decide +kernel, by decide +kernel⟩, List.mem_of_getElem? (i := 256) (by decide +kernel), List.mem_of_getElem? (i := 254) (by decide +kernel), List.mem_of_getElem? (i := 255) (by decide +kernel)⟩
theorem lw_p3 : lw_okq (⟨"TabledExecutive$Planner", "release", "(LTabledExecutive$TaskList;I)V"⟩, 2) := ⟨⟨by decide +kernel, by decide +kernel⟩, List.mem_of_getElem? (i := 132) (by decide +kernel), List.mem_of_getElem? (i := 381) (by decide +kernel), List.mem_of_getElem? (i := 382) (by decide +kernel)⟩
theorem lw_p4 : lw_okq (⟨"TabledExecutive$Planner", "mostUrgent", "(I)I"⟩, 2) := ⟨⟨by decide +kernel, by decide +kernel⟩, List.mem_of_getElem? (i := 132) (by decide +kernel), List.mem_of_getElem? (i := 389) (by decide +kernel), List.mem_of_getElem? (i := 390) (by decide +kernel)⟩
theorem lw_p5 : lw_okq (⟨"TabledExecutive$Planner", "missesWindow", "(II)Z"⟩, 2) := ⟨⟨by decide +kernel, by decide +kernel⟩, List.mem_of_getElem? (i := 132) (by decide +kernel), List.mem_of_getElem? (i := 393) (by decide +kernel), List.mem_of_getElem? (i := 394) (by decide +kernel)⟩
theorem lw_p6 : lw_okq (⟨"TabledExecutive", "startRun", "(I)V"⟩, 8) := ⟨⟨by decide +kernel, by decide +kernel⟩, List.mem_of_getElem? (i := 18) (by decide +kernel), List.mem_of_getElem? (i := 459) (by decide +kernel), List.mem_of_getElem? (i := 460) (by decide +kernel)⟩
theorem lw_p7 : lw_okq (⟨"TabledExecutive", "needRun", "()V"⟩, 8) := ⟨⟨by decide +kernel, by decide +kernel⟩, List.mem_of_getElem? (i := 18) (by decide +kernel), List.mem_of_getElem? (i := 472) (by decide +kernel), List.mem_of_getElem? (i := 473) (by decide +kernel)⟩
theorem lw_p8 : lw_okq (⟨"TabledExecutive", "runTick", "()I"⟩, 8) := ⟨⟨by decide +kernel, by decide +kernel⟩, List.mem_of_getElem? (i := 18) (by decide +kernel), List.mem_of_getElem? (i := 484) (by decide +kernel), List.mem_of_getElem? (i := 485) (by decide +kernel)⟩
theorem lw_p9 : lw_okq (⟨"TabledExecutive", "serve", "(LTabledExecutive$Task;)I"⟩, 8) := ⟨⟨by decide +kernel, by decide +kernel⟩, List.mem_of_getElem? (i := 18) (by decide +kernel), List.mem_of_getElem? (i := 501) (by decide +kernel), List.mem_of_getElem? (i := 502) (by decide +kernel)⟩
theorem lw_p10 : lw_okq (⟨"TabledExecutiveModel", "refused", "(I)Z"⟩, 22) := ⟨⟨by decide +kernel, by decide +kernel⟩, List.mem_of_getElem? (i := 542) (by decide +kernel), List.mem_of_getElem? (i := 624) (by decide +kernel), List.mem_of_getElem? (i := 625) (by decide +kernel)⟩
theorem lw_p11 : lw_okq (⟨"TabledExecutiveModel", "whole", "()I"⟩, 22) := ⟨⟨by decide +kernel, by decide +kernel⟩, List.mem_of_getElem? (i := 542) (by decide +kernel), List.mem_of_getElem? (i := 644) (by decide +kernel), List.mem_of_getElem? (i := 645) (by decide +kernel)⟩
theorem lw_p12 : lw_okq (⟨"TabledExecutiveModel", "greatestOffset", "()I"⟩, 22) := ⟨⟨by decide +kernel, by decide +kernel⟩, List.mem_of_getElem? (i := 542) (by decide +kernel), List.mem_of_getElem? (i := 652) (by decide +kernel), List.mem_of_getElem? (i := 653) (by decide +kernel)⟩
theorem lw_p13 : lw_okq (⟨"TabledExecutiveModel", "imagine", "(II)Z"⟩, 22) := ⟨⟨by decide +kernel, by decide +kernel⟩, List.mem_of_getElem? (i := 542) (by decide +kernel), List.mem_of_getElem? (i := 656) (by decide +kernel), List.mem_of_getElem? (i := 657) (by decide +kernel)⟩
theorem lw_p14 : lw_okq (⟨"TabledExecutiveModel", "isReleased", "(II)Z"⟩, 22) := ⟨⟨by decide +kernel, by decide +kernel⟩, List.mem_of_getElem? (i := 542) (by decide +kernel), List.mem_of_getElem? (i := 660) (by decide +kernel), List.mem_of_getElem? (i := 661) (by decide +kernel)⟩
theorem lw_p15 : lw_okq (⟨"TabledExecutiveModel", "chosen", "()I"⟩, 22) := ⟨⟨by decide +kernel, by decide +kernel⟩, List.mem_of_getElem? (i := 542) (by decide +kernel), List.mem_of_getElem? (i := 664) (by decide +kernel), List.mem_of_getElem? (i := 665) (by decide +kernel)⟩
def lw_privs_1 : List (MethodName × Nat) := [(⟨"TabledExecutive$TaskList", "isCommonMultiple", "(I)Z"⟩, 2), (⟨"TabledExecutive", "needEdit", "()V"⟩, 8), (⟨"java/lang/Throwable", "fillInStackTrace", "(I)Ljava/lang/Throwable;"⟩, 6), (⟨"TabledExecutive$Planner", "release", "(LTabledExecutive$TaskList;I)V"⟩, 2), (⟨"TabledExecutive$Planner", "mostUrgent", "(I)I"⟩, 2), (⟨"TabledExecutive$Planner", "missesWindow", "(II)Z"⟩, 2), (⟨"TabledExecutive", "startRun", "(I)V"⟩, 8), (⟨"TabledExecutive", "needRun", "()V"⟩, 8), (⟨"TabledExecutive", "runTick", "()I"⟩, 8), (⟨"TabledExecutive", "serve", "(LTabledExecutive$Task;)I"⟩, 8), (⟨"TabledExecutiveModel", "refused", "(I)Z"⟩, 22), (⟨"TabledExecutiveModel", "whole", "()I"⟩, 22), (⟨"TabledExecutiveModel", "greatestOffset", "()I"⟩, 22), (⟨"TabledExecutiveModel", "imagine", "(II)Z"⟩, 22), (⟨"TabledExecutiveModel", "isReleased", "(II)Z"⟩, 22), (⟨"TabledExecutiveModel", "chosen", "()I"⟩, 22)]
theorem lw_r1 : ∀ q ∈ lw_privs_1, lw_okq q := List.forall_mem_cons.mpr ⟨lw_p0, List.forall_mem_cons.mpr ⟨lw_p1, List.forall_mem_cons.mpr ⟨lw_p2, List.forall_mem_cons.mpr ⟨lw_p3, List.forall_mem_cons.mpr ⟨lw_p4, List.forall_mem_cons.mpr ⟨lw_p5, List.forall_mem_cons.mpr ⟨lw_p6, List.forall_mem_cons.mpr ⟨lw_p7, List.forall_mem_cons.mpr ⟨lw_p8, List.forall_mem_cons.mpr ⟨lw_p9, List.forall_mem_cons.mpr ⟨lw_p10, List.forall_mem_cons.mpr ⟨lw_p11, List.forall_mem_cons.mpr ⟨lw_p12, List.forall_mem_cons.mpr ⟨lw_p13, List.forall_mem_cons.mpr ⟨lw_p14, List.forall_mem_cons.mpr ⟨lw_p15, fun _ h => absurd h List.not_mem_nil⟩⟩⟩⟩⟩⟩⟩⟩⟩⟩⟩⟩⟩⟩⟩⟩
theorem lw_p16 : lw_okq (⟨"TabledExecutiveModel", "isGood", "()Z"⟩, 22) := ⟨⟨by decide +kernel, by decide +kernel⟩, List.mem_of_getElem? (i := 542) (by decide +kernel), List.mem_of_getElem? (i := 688) (by decide +kernel), List.mem_of_getElem? (i := 689) (by decide +kernel)⟩
theorem lw_p17 : lw_okq (⟨"TabledExecutiveModel", "covering", "(I)I"⟩, 22) := ⟨⟨by decide +kernel, by decide +kernel⟩, List.mem_of_getElem? (i := 542) (by decide +kernel), List.mem_of_getElem? (i := 692) (by decide +kernel), List.mem_of_getElem? (i := 693) (by decide +kernel)⟩
theorem lw_p18 : lw_okq (⟨"TabledExecutiveModel", "isServed", "(II)Z"⟩, 22) := ⟨⟨by decide +kernel, by decide +kernel⟩, List.mem_of_getElem? (i := 542) (by decide +kernel), List.mem_of_getElem? (i := 696) (by decide +kernel), List.mem_of_getElem? (i := 697) (by decide +kernel)⟩
theorem lw_p19 : lw_okq (⟨"TabledExecutiveModel", "at", "(I)I"⟩, 22) := ⟨⟨by decide +kernel, by decide +kernel⟩, List.mem_of_getElem? (i := 542) (by decide +kernel), List.mem_of_getElem? (i := 700) (by decide +kernel), List.mem_of_getElem? (i := 701) (by decide +kernel)⟩
theorem lw_p20 : lw_okq (⟨"TabledExecutiveModel", "one", "()I"⟩, 22) := ⟨⟨by decide +kernel, by decide +kernel⟩, List.mem_of_getElem? (i := 542) (by decide +kernel), List.mem_of_getElem? (i := 712) (by decide +kernel), List.mem_of_getElem? (i := 713) (by decide +kernel)⟩
theorem lw_p21 : lw_okq (⟨"TabledExecutiveModel", "release", "(I)V"⟩, 22) := ⟨⟨by decide +kernel, by decide +kernel⟩, List.mem_of_getElem? (i := 542) (by decide +kernel), List.mem_of_getElem? (i := 716) (by decide +kernel), List.mem_of_getElem? (i := 717) (by decide +kernel)⟩
theorem lw_p22 : lw_okq (⟨"TabledExecutiveModel", "instruct", "(I)I"⟩, 22) := ⟨⟨by decide +kernel, by decide +kernel⟩, List.mem_of_getElem? (i := 542) (by decide +kernel), List.mem_of_getElem? (i := 720) (by decide +kernel), List.mem_of_getElem? (i := 721) (by decide +kernel)⟩
def lw_privs_2 : List (MethodName × Nat) := [(⟨"TabledExecutiveModel", "isGood", "()Z"⟩, 22), (⟨"TabledExecutiveModel", "covering", "(I)I"⟩, 22), (⟨"TabledExecutiveModel", "isServed", "(II)Z"⟩, 22), (⟨"TabledExecutiveModel", "at", "(I)I"⟩, 22), (⟨"TabledExecutiveModel", "one", "()I"⟩, 22), (⟨"TabledExecutiveModel", "release", "(I)V"⟩, 22), (⟨"TabledExecutiveModel", "instruct", "(I)I"⟩, 22)]
theorem lw_r2 : ∀ q ∈ lw_privs_2, lw_okq q := List.forall_mem_cons.mpr ⟨lw_p16, List.forall_mem_cons.mpr ⟨lw_p17, List.forall_mem_cons.mpr ⟨lw_p18, List.forall_mem_cons.mpr ⟨lw_p19, List.forall_mem_cons.mpr ⟨lw_p20, List.forall_mem_cons.mpr ⟨lw_p21, List.forall_mem_cons.mpr ⟨lw_p22, fun _ h => absurd h List.not_mem_nil⟩⟩⟩⟩⟩⟩⟩
def lw_privs : List (MethodName × Nat) := lw_privs_1 ++ (lw_privs_2)
def lw_tbl : List Cond := k2_sels lw_privs ++ tables_1
theorem lw_privs_ok : ∀ q ∈ lw_privs, lw_okq q := by
  show ∀ q ∈ lw_privs_1 ++ (lw_privs_2), lw_okq q
  exact List.forall_mem_append.mpr ⟨lw_r1, lw_r2⟩
end
section
/-! ===== BEGIN words of one list among another's, by their places ===== -/
theorem goodIn_r {big : List Cond} (ws : List Cond) (ps : List Nat) (hp : ws = ps.filterMap (fun i => big[i]?)) (h : ws.all goodWord = true) : GoodIn big ws := by
  intro w hw
  have h1 := List.all_eq_true.mp h w hw
  rw [hp] at hw
  obtain ⟨i, -, hi⟩ := List.mem_filterMap.mp hw
  have hm : w ∈ big := by first | exact List.mem_of_getElem? hi | exact List.getElem?_mem hi
  exact ⟨hm, good_of_word h1⟩
theorem goodIn_app {big a b : List Cond} (ha : GoodIn big a) (hb : GoodIn big b) : GoodIn big (a ++ b) := fun w h => (List.mem_append.mp h).elim (ha w) (hb w)
theorem goodIn_ca {big a b : List Cond} {c : Cond} (ha : GoodIn big (c :: a)) (hb : GoodIn big b) : GoodIn big (c :: (a ++ b)) := fun w h => (List.mem_cons.mp h).elim (fun e => ha w (List.mem_cons.mpr (Or.inl e))) (fun h => (List.mem_append.mp h).elim (fun h => ha w (List.mem_cons.mpr (Or.inr h))) (hb w))
theorem goodIn_sub {big ws : List Cond} (hm : ∀ w ∈ ws, w ∈ big) (h : ws.all goodWord = true) : GoodIn big ws := fun w hw => ⟨hm w hw, good_of_word (List.all_eq_true.mp h w hw)⟩
/-! ===== END ===== -/

/-! ===== BEGIN exceptions that leave a method, and their catching by the caller (launches without stack traces) ===== -/
section VXA
/-! The laws vx_back, vx_callV, vx_callS, vx_callSW, vx_throw0, vx_throwS follow proofs of the library, with one case more: JvmDerived/Free/Laws.lean (Back.of_free), Shelf42/LK1.lean (callV, callS), Shelf/KitTraced.lean (throwNew0V, throwNewS). -/
/-- where a method has thrown q: the class by its name, the cell, what was written, the world -/
def vx_T (XC : String → State → State → Prop) (st : State) (q : Addr) (t : State) (mc ms : Nat) (free : Addr → Prop) : Prop :=
  ∃ (E : String) (ce : Cell) (L : List Loc), XC E st t ∧ t.heap[q]? = some ce ∧ ce.vm = .none ∧ st.vm.findClass E = some ce.cls ∧ st.WarmedH t.vm ∧ st.sameButNew ({ t with vm := st.vm } : State) L mc ms ∧ ∀ z ∈ L, free z.base
def vx_Q (Qc : Array Value → State → Outcome → State → Prop) (XC : String → State → State → Prop) (mc ms : Nat) (free : Addr → Prop) : Array Value → State → Outcome → State → Prop := fun a st o t =>
  (Qc a st o t ∧ ∃ L, FrameEnd st o t L mc ms ∧ ∀ q ∈ L, free q.base) ∨ ∃ q, o = .threw q ∧ vx_T XC st q t mc ms free
/-- a callee that returns or throws -/
def vx_Met (l : Launch) (y : MethodName) (ws : List Cond) (rm : Room) (Pc : Array Value → State → Prop) (Qc : Array Value → State → Outcome → State → Prop) (XC : String → State → State → Prop) (mc ms : Nat) (free : Addr → Prop) : Prop :=
  MetFree l y (headSpec ws rm) Pc (fun _ _ _ _ _ => True) (vx_Q Qc XC mc ms free)
def vx_Post (XC : String → State → State → Prop) (mc ms : Nat) (free : Addr → Prop) : Pt → Array Value → Addr → Pt → Prop := fun A a q B =>
  ∃ (g : JFrame) (mk : MethodId) (t : State) (L : List Loc) (E : String) (ce : Cell), B.U.heap = t.heap ∧ B.U.vm = t.vm ∧ XC E (A.U.calling g mk a) t ∧ t.heap[q]? = some ce ∧ ce.vm = .none ∧ A.U.vm.findClass E = some ce.cls ∧ B.locs = A.locs ++ L ∧ (∀ z ∈ L, free z.base) ∧ B.cells = A.cells + mc ∧ B.slots = A.slots + ms
def vx_Back (l : Launch) (R : Room) (p : Program) (e : Env) (below : List Frame) (s : State) (sargs : Array Value) (y : MethodName) (len W9 : Nat)
    (Pre : Pt → Array Value → Prop) (Post : Pt → Array Value → Option Value → Pt → Prop) (PostX : Pt → Array Value → Addr → Pt → Prop) : Prop :=
  ∀ (m : MethodId) (meth : Method) (c : Code) (A : Pt) (g : JFrame) (ig : Instr) (mk : MethodId) (a : Array Value),
    Stand p l e R s m sargs below meth c A.U A.locs A.cells A.slots → g.method = m → g.locals.size = c.maxLocals → decode c.code g.pc = .ok (ig, len) →
    2 * g.monitorRoom + (g.stack.map fun v => v.category).sum ≤ W9 → A.U.methodNamed? y = some mk → Pre A a →
    (∃ (v : Option Value) (B : Pt), Stand p l e R s m sargs below meth c B.U B.locs B.cells B.slots ∧ Post A a v B ∧
      Steps p.tables e below (doInvoke e (A.U.setTop g) [] mk a).1 (B.U.setTop { g with pc := g.pc + len, stack := v.toList ++ g.stack })) ∨
    (∃ (q : Addr) (B : Pt), Stand p l e R s m sargs below meth c B.U B.locs B.cells B.slots ∧ PostX A a q B ∧
      Steps p.tables e below (doInvoke e (A.U.setTop g) [] mk a).1 ((B.U.setTop g).pushFrame (.throwing q)))
section Payer
variable {l : Launch} {R : Room} {p : Program} {e : Env} {below : List Frame} {s : State} {sargs : Array Value} {y : MethodName} {len W9 : Nat}
theorem vx_back {ws : List Cond} {rm : Room} {Pc : Array Value → State → Prop} {Qc : Array Value → State → Outcome → State → Prop} {XC : String → State → State → Prop} {mc ms : Nat} {free : Addr → Prop} {bytes : ByteArray} {maxL : Nat} {ret : Option FieldType}
    (hM : vx_Met l y ws rm Pc Qc XC mc ms free) (hblind : FrameBlind Pc) (hrc : rm.cells = mc) (hrs : rm.slots = ms)
    (hframes : rm.frames + 1 ≤ R.frames) (hlocals : W9 + (maxL + 11) + rm.locals ≤ R.locals)
    (hws : ∀ w ∈ ws, ∀ a' U, s.WarmedH U.vm → w.before a' U = true) (hcode : Cond.code y bytes maxL ret ∈ ws) (hinit : ∀ a' U, s.WarmedH U.vm → (Cond.initialized y.cls).before a' U = true) :
    vx_Back l R p e below s sargs y len W9 (PreOf R mc ms Pc) (PostOf Qc mc ms free) (vx_Post XC mc ms free) := by
  intro m meth c A g ig mk a X hg hsize hdg hW hn hp
  have h1 : (headSpec ws rm).pre.before a A.U = true := atoms_intro fun w hw => hws w hw _ _ X.warmed
  have h2 : (Cond.code y bytes maxL ret).before a A.U = true := hws _ hcode _ _ X.warmed
  have h3 : (Cond.initialized y.cls).before a A.U = true := hinit _ _ X.warmed
  have h4 : A.cells + (headSpec ws rm).room.cells ≤ R.cells := by rw [show (headSpec ws rm).room.cells = mc from hrc]; exact hp.1
  have h5 : A.slots + (headSpec ws rm).room.slots ≤ R.slots := by rw [show (headSpec ws rm).room.slots = ms from hrs]; exact hp.2.1
  have hPc : Pc a (A.U.calling g mk a) := hblind _ _ _ _ hp.2.2
  obtain ⟨U, Ls, c0, s0⟩ := A
  dsimp only [Pt.U, Pt.locs, Pt.cells, Pt.slots] at h1 h2 h3 h4 h5 X hn hPc ⊢
  obtain ⟨methY, cY, hmY, hcY, -, hlY, -, -, -, -⟩ := Cond.code_spec hn h2
  obtain ⟨kY, hkY, -⟩ := className_of_methodNamed hn
  have hinitY : kY.init = .initialized := Cond.initialized_spec (findClass_of_methodNamed hn) hkY h3
  have h : At U g.method c below := by rw [hg]; exact X.here
  have hlocals9 : W9 + (maxL + 11) + (headSpec ws rm).room.locals ≤ R.locals := hlocals
  have happ : (headSpec ws rm).appliesLoose y e.platform (U.calling g mk a) = true :=
    Spec.appliesLoose_calling (g := g) h hdg hn hkY hinitY
      (X.room_calling (g := g) (R' := (headSpec ws rm).room) hsize hmY hcY hframes (by rw [hlY]; omega) h4 h5) h1
  obtain ⟨mid, hmid⟩ := h.above
  have hfr : (U.setTop g).frames = (.java g :: mid) ++ below := by rw [State.frames_setTop' g h.top, hmid]; rfl
  obtain ⟨o, s₂, hsteps, -, hend, hq⟩ := Steps.callFree hM p X.admits X.cas X.clock (acts := []) hfr happ hPc trivial
  have hq' : vx_Q Qc XC mc ms free a (U.calling g mk a) o s₂ := hq
  rw [State.frames_setTop' g h.top] at hend
  obtain ⟨g₀, hg0⟩ := Option.isSome_iff_exists.mp h.top
  obtain ⟨r, hr⟩ := State.topJava?_eq_some.mp hg0
  have hr' : (({ U with heap := s₂.heap, slotsUsed := s₂.slotsUsed } : State).setVm s₂.vm).frames = .java g₀ :: r := hr
  rcases hq' with ⟨hqc, L, hfe, hL⟩ | ⟨q, rfl, E, ce, L, hx, hce, hcv, hcl, hW₂, hsm, hL⟩
  · obtain ⟨⟨v, rfl⟩, hW₂, e2, q2, q3, q4, q5, q6⟩ := id hfe
    have e3 : s₂ = ({ (U.calling g mk a).setFrames s₂.frames with heap := s₂.heap, slotsUsed := s₂.slotsUsed } : State).setVm s₂.vm := by
      have : s₂ = ({ s₂ with vm := (U.calling g mk a).vm } : State).setVm s₂.vm := rfl
      rw [e2] at this
      exact this
    obtain ⟨c₂, i₂, len₂, hc₂, hd₂, hf₂⟩ := hend
    have hW' : U.WarmedH s₂.vm := hW₂
    have hcc : c₂ = c := by
      have h1 : s₂.code? g.method = U.code? g.method := by
        rw [State.code?_eq, State.code?_eq, hW'.alike.method?]
      exact Option.some.inj (hc₂.symm.trans (h1.trans h.code))
    subst hcc
    have hlen : len₂ = len := by rw [hdg] at hd₂; cases hd₂; rfl
    subst hlen
    have hs₂ : s₂ = (({ U with heap := s₂.heap, slotsUsed := s₂.slotsUsed } : State).setVm s₂.vm).setTop { g with pc := g.pc + len₂, stack := v.toList ++ g.stack } := by
      refine e3.trans ?_
      rw [hf₂, State.calling_eq h.top, State.setFrames_setFrames, State.setTop_of_frames _ hr', hr]
      rfl
    have hsame : U.sameButNew ({ U with heap := s₂.heap, slotsUsed := s₂.slotsUsed } : State) L mc ms := by
      refine ⟨?_, q2, q3, q4, q5, q6⟩
      obtain ⟨t, ht, -⟩ := State.frames_cons hr
      show ({ U with heap := s₂.heap, slotsUsed := s₂.slotsUsed } : State) = { U.setFrames U.frames with heap := s₂.heap, slotsUsed := s₂.slotsUsed }
      rw [State.setFrames_self ht]
    subst hg
    refine Or.inl ⟨v, ⟨(({ U with heap := s₂.heap, slotsUsed := s₂.slotsUsed } : State).setVm s₂.vm), Ls ++ L, c0 + mc, s0 + ms⟩,
      ⟨X.admits, X.cas, X.clock, X.frames, X.room, X.hears, X.method, X.code, (X.here.setHeapUsed s₂.heap s₂.slotsUsed).setVm hW'.alike, X.tail, State.WarmedH.trans X.warmed hW', X.limits, X.bytes, X.same.trans (hsame.setVm s.vm)⟩,
      ⟨g, mk, s₂, L, rfl, rfl, hqc, rfl, hL, rfl, rfl⟩, ?_⟩
    show Steps p.tables e below _ ((({ U with heap := s₂.heap, slotsUsed := s₂.slotsUsed } : State).setVm s₂.vm).setTop { g with pc := g.pc + len₂, stack := v.toList ++ g.stack })
    rw [← hs₂]
    exact hsteps
  · obtain ⟨e2, q2, q3, q4, q5, q6⟩ := id hsm
    have e3 : s₂ = ({ (U.calling g mk a).setFrames s₂.frames with heap := s₂.heap, slotsUsed := s₂.slotsUsed } : State).setVm s₂.vm := by
      have : s₂ = ({ s₂ with vm := (U.calling g mk a).vm } : State).setVm s₂.vm := rfl
      rw [e2] at this
      exact this
    have hf₂ : s₂.frames = .throwing q :: .java g :: U.frames.tail := hend
    have hW' : U.WarmedH s₂.vm := hW₂
    have hs₂ : s₂ = ((({ U with heap := s₂.heap, slotsUsed := s₂.slotsUsed } : State).setVm s₂.vm).setTop g).pushFrame (.throwing q) := by
      refine e3.trans ?_
      rw [hf₂, State.calling_eq h.top, State.setFrames_setFrames, State.pushFrame, State.frames_setTop _ hr', State.setTop_of_frames _ hr', State.setFrames_setFrames, hr]
      rfl
    have hsame : U.sameButNew ({ U with heap := s₂.heap, slotsUsed := s₂.slotsUsed } : State) L mc ms := by
      refine ⟨?_, q2, q3, q4, q5, q6⟩
      obtain ⟨t, ht, -⟩ := State.frames_cons hr
      show ({ U with heap := s₂.heap, slotsUsed := s₂.slotsUsed } : State) = { U.setFrames U.frames with heap := s₂.heap, slotsUsed := s₂.slotsUsed }
      rw [State.setFrames_self ht]
    subst hg
    refine Or.inr ⟨q, ⟨(({ U with heap := s₂.heap, slotsUsed := s₂.slotsUsed } : State).setVm s₂.vm), Ls ++ L, c0 + mc, s0 + ms⟩,
      ⟨X.admits, X.cas, X.clock, X.frames, X.room, X.hears, X.method, X.code, (X.here.setHeapUsed s₂.heap s₂.slotsUsed).setVm hW'.alike, X.tail, State.WarmedH.trans X.warmed hW', X.limits, X.bytes, X.same.trans (hsame.setVm s.vm)⟩,
      ⟨g, mk, s₂, L, E, ce, rfl, rfl, hx, hce, hcv, hcl, rfl, hL, rfl, rfl⟩, ?_⟩
    show Steps p.tables e below _ (((({ U with heap := s₂.heap, slotsUsed := s₂.slotsUsed } : State).setVm s₂.vm).setTop g).pushFrame (.throwing q))
    rw [← hs₂]
    exact hsteps
end Payer
section Calls
variable {p : Program} {l : Launch} {e : Env} {R : Room} {s : State} {m : MethodId} {args : Array Value} {below : List Frame} {meth : Method} {c : Code} {T : State} {locs : List Loc} {cells slots : Nat}
theorem vx_callV (X : Stand p l e R s m args below meth c T locs cells slots) (hexec : p.tables.exec = Jvm.exec) {own C : String} {index : Nat} {y : MethodName} {bytes : ByteArray} {maxL : Nat} {ret : Option FieldType}
    (hown : s.vm.findClass own = some m.cls) (hlink : (Cond.methodLink own index y).before args s = true) (hinst : (Cond.instanceMethod y).before args s = true) (hsel : (Cond.selects C y y).before args s = true)
    (hcode : (Cond.code y bytes maxL ret).before args s = true) (hy : y.cls ≠ "java/lang/invoke/MethodHandle" ∧ y.cls ≠ "java/lang/invoke/VarHandle")
    {W9 : Nat} {Pre : Pt → Array Value → Prop} {Post : Pt → Array Value → Option Value → Pt → Prop} {PostX : Pt → Array Value → Addr → Pt → Prop} (hK : vx_Back l R p e below s args y 3 W9 Pre Post PostX)
    {b : Addr} {cellB : Cell} (hcell : T.heap[b]? = some cellB) (hobj : cellB.vm.isStatics = false) (hcls : s.vm.findClass C = some cellB.cls)
    {g : JFrame} (hg : g.method = m) (hsize : g.locals.size = c.maxLocals) {argsL rest : List Value} (hlen : ∀ sig, parseMethodDescriptor y.desc = some sig → argsL.length = sig.parameters.length)
    (hstack : g.stack = argsL.reverse ++ .ref b :: rest) (hW : 2 * g.monitorRoom + (rest.map fun v => v.category).sum ≤ W9) (hdg : decode c.code g.pc = .ok (.invokevirtual index, 3))
    (hpre : ∀ vm₁, s.WarmedH vm₁ → Pre ⟨T.setVm vm₁, locs, cells, slots⟩ (Value.ref b :: argsL).toArray) :
    (∃ (v : Option Value) (vm₁ : Vm) (B : Pt), s.WarmedH vm₁ ∧ Stand p l e R s m args below meth c B.U B.locs B.cells B.slots ∧ Post ⟨T.setVm vm₁, locs, cells, slots⟩ (Value.ref b :: argsL).toArray v B ∧
      ∀ target, Steps p.tables e below (B.U.setTop { g with pc := g.pc + 3, stack := v.toList ++ rest }) target → Steps p.tables e below (T.setTop g) target) ∨
    (∃ (q : Addr) (vm₁ : Vm) (B : Pt), s.WarmedH vm₁ ∧ Stand p l e R s m args below meth c B.U B.locs B.cells B.slots ∧ PostX ⟨T.setVm vm₁, locs, cells, slots⟩ (Value.ref b :: argsL).toArray q B ∧
      Steps p.tables e below (T.setTop g) ((B.U.setTop { g with stack := rest }).pushFrame (.throwing q))) := by
  obtain ⟨mk, methM, hnamed, hmethM, hstM, habM⟩ := Cond.instanceMethod_spec hinst
  obtain ⟨methM', cM, hmethM', -, -, -, -, -, -, hsigM⟩ := Cond.code_spec hnamed hcode
  cases hmethM.symm.trans hmethM'
  obtain ⟨c2, r2, m2, q1, q2, q3, q4, kP, hkP, hkPi⟩ := Cond.selects_spec hsel
  cases hcls.symm.trans q1
  cases (State.methodFound?_of_named hnamed hy).symm.trans q2
  cases hnamed.symm.trans q3
  have hselP : selectMethod e.platform s.vm cellB.cls mk = .method mk := by rw [Launch.admits_selectMethod X.admits]; exact q4
  obtain ⟨vm₁, X₁, hstep₁⟩ := X.invokevirtual hexec hown hlink hnamed hmethM hstM hkP hkPi hy (a := b) (cell := cellB) hcell
    (fun z h => by rw [h] at hobj; cases hobj) hselP hmethM habM hkP hkPi (g := g) hg (argsL := argsL) (rest := rest) (hlen _ hsigM) hstack hdg
  rcases hK m meth c ⟨T.setVm vm₁, locs, cells, slots⟩ { g with stack := rest } (.invokevirtual index) mk (Value.ref b :: argsL).toArray X₁ hg hsize hdg hW (X₁.named hnamed) (hpre vm₁ X₁.warmed) with ⟨v, B, X', hpost, hsteps⟩ | ⟨q, B, X', hpost, hsteps⟩
  · exact Or.inl ⟨v, vm₁, B, X₁.warmed, X', hpost, fun target h => hstep₁ _ fun acts => by rw [doInvoke_state]; exact hsteps.trans h⟩
  · exact Or.inr ⟨q, vm₁, B, X₁.warmed, X', hpost, hstep₁ _ fun acts => by rw [doInvoke_state]; exact hsteps⟩
theorem vx_callS (X : Stand p l e R s m args below meth c T locs cells slots) (hexec : p.tables.exec = Jvm.exec) {own : String} {index : Nat} {y : MethodName} {bytes : ByteArray} {maxL : Nat} {ret : Option FieldType}
    (hown : s.vm.findClass own = some m.cls) (hlink : (Cond.methodLink own index y).before args s = true) (hstat : (Cond.static y).before args s = true) (hinit : (Cond.initialized y.cls).before args s = true)
    (hcode : (Cond.code y bytes maxL ret).before args s = true) (hy : y.cls ≠ "java/lang/invoke/MethodHandle" ∧ y.cls ≠ "java/lang/invoke/VarHandle")
    {W9 : Nat} {Pre : Pt → Array Value → Prop} {Post : Pt → Array Value → Option Value → Pt → Prop} {PostX : Pt → Array Value → Addr → Pt → Prop} (hK : vx_Back l R p e below s args y 3 W9 Pre Post PostX)
    {g : JFrame} (hg : g.method = m) (hsize : g.locals.size = c.maxLocals) {argsL rest : List Value} (hlen : ∀ sig, parseMethodDescriptor y.desc = some sig → argsL.length = sig.parameters.length)
    (hstack : g.stack = argsL.reverse ++ rest) (hW : 2 * g.monitorRoom + (rest.map fun v => v.category).sum ≤ W9) (hdg : decode c.code g.pc = .ok (.invokestatic index, 3))
    (hpre : ∀ vm₁, s.WarmedH vm₁ → Pre ⟨T.setVm vm₁, locs, cells, slots⟩ argsL.toArray) :
    (∃ (v : Option Value) (vm₁ : Vm) (B : Pt), s.WarmedH vm₁ ∧ Stand p l e R s m args below meth c B.U B.locs B.cells B.slots ∧ Post ⟨T.setVm vm₁, locs, cells, slots⟩ argsL.toArray v B ∧
      ∀ target, Steps p.tables e below (B.U.setTop { g with pc := g.pc + 3, stack := v.toList ++ rest }) target → Steps p.tables e below (T.setTop g) target) ∨
    (∃ (q : Addr) (vm₁ : Vm) (B : Pt), s.WarmedH vm₁ ∧ Stand p l e R s m args below meth c B.U B.locs B.cells B.slots ∧ PostX ⟨T.setVm vm₁, locs, cells, slots⟩ argsL.toArray q B ∧
      Steps p.tables e below (T.setTop g) ((B.U.setTop { g with stack := rest }).pushFrame (.throwing q))) := by
  obtain ⟨mk, hnamed⟩ := Cond.code_named hcode
  obtain ⟨methM, cM, hmethM, -, -, -, -, -, -, hsigM⟩ := Cond.code_spec hnamed hcode
  have hstatic : methM.isStatic = true := Cond.static_spec hnamed hmethM hstat
  obtain ⟨kP, hkP, -⟩ := className_of_methodNamed hnamed
  have hinitP : kP.init = .initialized := Cond.initialized_spec (findClass_of_methodNamed hnamed) hkP hinit
  obtain ⟨vm₁, X₁, hstep₁⟩ := X.invokestatic hexec hown hlink hnamed hmethM hstatic hkP hinitP hy (g := g) hg (argsL := argsL) (rest := rest) (hlen _ hsigM) hstack hdg
  rcases hK m meth c ⟨T.setVm vm₁, locs, cells, slots⟩ { g with stack := rest } (.invokestatic index) mk argsL.toArray X₁ hg hsize hdg hW (X₁.named hnamed) (hpre vm₁ X₁.warmed) with ⟨v, B, X', hpost, hsteps⟩ | ⟨q, B, X', hpost, hsteps⟩
  · exact Or.inl ⟨v, vm₁, B, X₁.warmed, X', hpost, fun target h => hstep₁ _ fun acts => by rw [doInvoke_state]; exact hsteps.trans h⟩
  · exact Or.inr ⟨q, vm₁, B, X₁.warmed, X', hpost, hstep₁ _ fun acts => by rw [doInvoke_state]; exact hsteps⟩
end Calls
theorem vx_cls {s : State} {T : State} {vm₁ : Vm} {E : String} {k : ClassId} (hW : s.WarmedH vm₁) (h : (T.setVm vm₁).vm.findClass E = some k) : s.vm.findClass E = some k := by
  have h1 : vm₁.findClass E = some k := h
  rw [hW.alike.findClass] at h1
  exact h1
/-- the method's frame g, with q thrown over it -/
def vx_W (p : Program) (l : Launch) (e : Env) (R : Room) (s : State) (m : MethodId) (args : Array Value) (below : List Frame) (meth : Method) (c : Code) (H : Heap) (locs : List Loc) (cells slots : Nat) (Q : State → Prop) (g : JFrame) (q : Addr) : Prop :=
  ∀ T : State, T.heap = H → Stand p l e R s m args below meth c T locs cells slots → ∃ t, Steps p.tables e below ((T.setTop g).pushFrame (.throwing q)) t ∧ Q t
def vx_Run (p : Program) (l : Launch) (e : Env) (R : Room) (s : State) (m : MethodId) (args : Array Value) (below : List Frame) (meth : Method) (c : Code) (H : Heap) (locs : List Loc) (cells slots mc ms : Nat) (g : JFrame) (rest : List Value) (Qa : State → Outcome → State → Prop) (XC : String → State → State → Prop) (free : Addr → Prop) : Prop :=
  ∀ T : State, T.heap = H → Stand p l e R s m args below meth c T locs cells slots →
    (∃ (v : Option Value) (st₀ t T' : State) (L : List Loc), st₀.heap = H ∧ Stand p l e R s m args below meth c T' (locs ++ L) (cells + mc) (slots + ms) ∧ (∀ q ∈ L, free q.base) ∧ T'.heap = t.heap ∧ T'.vm = t.vm ∧ Qa st₀ (.returned v) t ∧
      Goes p e below T g T' { g with pc := g.pc + 3, stack := v.toList ++ rest }) ∨
    (∃ (q : Addr) (st₀ t T' : State) (L : List Loc) (E : String) (ce : Cell), st₀.heap = H ∧ Stand p l e R s m args below meth c T' (locs ++ L) (cells + mc) (slots + ms) ∧ (∀ z ∈ L, free z.base) ∧ T'.heap = t.heap ∧ T'.vm = t.vm ∧ XC E st₀ t ∧ t.heap[q]? = some ce ∧ ce.vm = .none ∧ s.vm.findClass E = some ce.cls ∧
      Steps p.tables e below (T.setTop g) ((T'.setTop { g with stack := rest }).pushFrame (.throwing q)))
def vx_X {S : Type} (px : S → Prop) (B : String → S → State → Prop) (A : Nat → Prop) : String → State → State → Prop := fun E st t => ∃ u : S, px u ∧ B E u t ∧ va_F A st t
section Runs
variable {p : Program} {l : Launch} {e : Env} {R : Room} {s : State} {m : MethodId} {args : Array Value} {below : List Frame} {meth : Method} {c : Code} {H : Heap} {locs : List Loc} {cells slots : Nat}
variable {y : MethodName} {bytes cc : ByteArray} {maxL nL mc ms n index : Nat} {ret : Option FieldType} {ws : List Cond} {rm : Room} {Pc : Array Value → State → Prop} {Qc : Array Value → State → Outcome → State → Prop} {XC : String → State → State → Prop} {free : Addr → Prop} {Ts : List Cond} {own C : String} {b : Addr} {As rest : List Value} {g : JFrame}
theorem vx_callBack (cb : CallB R s args own index y bytes maxL ret ws rm mc ms n) (hM : vx_Met l y ws rm Pc Qc XC mc ms free) (hbl : FrameBlind Pc) : vx_Back l R p e below s args y 3 8 (PreOf R mc ms Pc) (PostOf Qc mc ms free) (vx_Post XC mc ms free) := by
  obtain ⟨hrc, hrs, hfr, hlo, hws, hcw, -, hini, -⟩ := cb
  exact vx_back (bytes := bytes) (maxL := maxL) (ret := ret) hM hbl hrc hrs hfr hlo hws hcw (fun a' U hW => word_at hW (Or.inl (by first | rfl | simp [Cond.onTables, Cond.keeps, Cond.steady])) hini)
theorem vx_runV (S : CallFix p m c cc nL s args Ts own) (hM : vx_Met l y ws rm Pc Qc XC mc ms free) (cw : CallW R s args own C index y bytes maxL ret ws rm mc ms n) (hp : PreV s H C b Pc As)
    (hg : g.method = m) (hn : As.length = n) (hsize : g.locals.size = nL) (hstack : g.stack = As.reverse ++ .ref b :: rest) (hW : 2 * g.monitorRoom + (rest.map fun v => v.category).sum ≤ 8) (hdg : decode cc g.pc = .ok (.invokevirtual index, 3)) (hf : cells + mc ≤ R.cells ∧ slots + ms ≤ R.slots) :
    vx_Run p l e R s m args below meth c H locs cells slots mc ms g rest (Qc (Value.ref b :: As).toArray) XC free := by
  have hK : vx_Back l R p e below s args y 3 8 (PreOf R mc ms Pc) (PostOf Qc mc ms free) (vx_Post XC mc ms free) := vx_callBack cw.1 hM hp.1
  obtain ⟨⟨-, -, -, -, -, -, hcode, -, hy, hlen, hl⟩, hin, hse⟩ := cw
  obtain ⟨hx, hb, hml, ho, -⟩ := S
  obtain ⟨-, ⟨cellB, hcB, hoB, hclB⟩, hPc⟩ := hp
  intro T hT X
  rcases vx_callV X hx (C := C) (bytes := bytes) (maxL := maxL) (ret := ret) ho hl hin hse hcode hy hK (by rw [hT]; exact hcB) hoB hclB hg (hsize.trans hml.symm) (argsL := As) (rest := rest) (fun sig h => hn.trans (hlen sig h)) hstack hW (by rw [hb]; exact hdg)
    (fun vm₁ hW₁ => ⟨hf.1, hf.2, hPc (T.setVm vm₁) hT hW₁⟩) with ⟨v, vm₁, ⟨U', l2, c2, s2⟩, hW₁, X', ⟨g', mk, t, L, e1, e2, hq, h1, hL, h2, h3⟩, st⟩ | ⟨q, vm₁, ⟨U', l2, c2, s2⟩, hW₁, X', ⟨g', mk, t, L, E, ce, e1, e2, hq, hce, hcv, hcl, h1, hL, h2, h3⟩, st⟩
  · dsimp only [Pt.U, Pt.locs, Pt.cells, Pt.slots] at X' e1 e2 h1 h2 h3 st
    subst h1; subst h2; subst h3
    exact Or.inl ⟨v, (T.setVm vm₁).calling g' mk (Value.ref b :: As).toArray, t, U', L, hT, X', hL, e1, e2, hq, st⟩
  · dsimp only [Pt.U, Pt.locs, Pt.cells, Pt.slots] at X' e1 e2 h1 h2 h3 st hcl
    subst h1; subst h2; subst h3
    exact Or.inr ⟨q, (T.setVm vm₁).calling g' mk (Value.ref b :: As).toArray, t, U', L, E, ce, hT, X', hL, e1, e2, hq, hce, hcv, vx_cls hW₁ hcl, st⟩
theorem vx_runS (S : CallFix p m c cc nL s args Ts own) (hM : vx_Met l y ws rm Pc Qc XC mc ms free) (cw : CallB R s args own index y bytes maxL ret ws rm mc ms n ∧ (Cond.static y).before args s = true) (hp : PreS s H Pc As)
    (hg : g.method = m) (hn : As.length = n) (hsize : g.locals.size = nL) (hstack : g.stack = As.reverse ++ rest) (hW : 2 * g.monitorRoom + (rest.map fun v => v.category).sum ≤ 8) (hdg : decode cc g.pc = .ok (.invokestatic index, 3)) (hf : cells + mc ≤ R.cells ∧ slots + ms ≤ R.slots) :
    vx_Run p l e R s m args below meth c H locs cells slots mc ms g rest (Qc As.toArray) XC free := by
  have hK : vx_Back l R p e below s args y 3 8 (PreOf R mc ms Pc) (PostOf Qc mc ms free) (vx_Post XC mc ms free) := vx_callBack cw.1 hM hp.1
  obtain ⟨⟨-, -, -, -, -, -, hcode, hini, hy, hlen, hl⟩, hstt⟩ := cw
  obtain ⟨hx, hb, hml, ho, -⟩ := S
  intro T hT X
  rcases vx_callS X hx (bytes := bytes) (maxL := maxL) (ret := ret) ho hl hstt hini hcode hy hK hg (hsize.trans hml.symm) (argsL := As) (rest := rest) (fun sig h => hn.trans (hlen sig h)) hstack hW (by rw [hb]; exact hdg)
    (fun vm₁ hW₁ => ⟨hf.1, hf.2, hp.2 (T.setVm vm₁) hT hW₁⟩) with ⟨v, vm₁, ⟨U', l2, c2, s2⟩, hW₁, X', ⟨g', mk, t, L, e1, e2, hq, h1, hL, h2, h3⟩, st⟩ | ⟨q, vm₁, ⟨U', l2, c2, s2⟩, hW₁, X', ⟨g', mk, t, L, E, ce, e1, e2, hq, hce, hcv, hcl, h1, hL, h2, h3⟩, st⟩
  · dsimp only [Pt.U, Pt.locs, Pt.cells, Pt.slots] at X' e1 e2 h1 h2 h3 st
    subst h1; subst h2; subst h3
    exact Or.inl ⟨v, (T.setVm vm₁).calling g' mk As.toArray, t, U', L, hT, X', hL, e1, e2, hq, st⟩
  · dsimp only [Pt.U, Pt.locs, Pt.cells, Pt.slots] at X' e1 e2 h1 h2 h3 st hcl
    subst h1; subst h2; subst h3
    exact Or.inr ⟨q, (T.setVm vm₁).calling g' mk As.toArray, t, U', L, E, ce, hT, X', hL, e1, e2, hq, hce, hcv, vx_cls hW₁ hcl, st⟩
end Runs
section Rows
variable {p : Program} {l : Launch} {e : Env} {R : Room} {s : State} {m : MethodId} {args : Array Value} {below : List Frame} {meth : Method} {c : Code} {H : Heap} {locs : List Loc} {cells slots : Nat} {Q : State → Prop}
variable {mc ms : Nat} {free : Addr → Prop} {A0 A1 : Nat → Prop} {H0 : Heap} {a : Array Value} {pc : Nat} {ls : Array Slot} {st0 rest : List Value}
theorem vx_keep {st₀ t T' : State} {L : List Loc} (h0 : st₀.heap = H) (e1 : T'.heap = t.heap) (hS : va_S A0 H0 H locs) (hA : ∀ q, q < H.size → A1 q → A0 q) (hf : ∀ q, free q → A0 q) (hL : ∀ q ∈ L, free q.base) (hF : va_F A1 st₀ t) :
    H.size ≤ T'.heap.size ∧ (∀ q : Nat, q < H.size → ¬ A1 q → T'.heap[q]? = H[q]?) ∧ va_S A0 H0 T'.heap (locs ++ L) := by
  obtain ⟨hz, hk⟩ := hF
  rw [h0] at hz hk
  exact ⟨by rw [e1]; exact hz, fun q h1 h2 => by rw [e1]; exact hk q h1 h2,
    ⟨Nat.le_trans hS.1 (by rw [e1]; exact hz), fun q h1 h2 => by rw [e1, hk q (Nat.lt_of_lt_of_le h1 hS.1) (fun z => h2 (hA q (Nat.lt_of_lt_of_le h1 hS.1) z))]; exact hS.2.1 q h1 h2, fun q hq => by
      rcases List.mem_append.mp hq with h | h
      · exact hS.2.2 q h
      · exact hf _ (hL q h)⟩⟩
theorem vx_calli {S SX : Type} {post : Int32 → S → Prop} {px : SX → Prop} {B : S → State → Prop} {BX : String → SX → State → Prop} {AX : Nat → Prop} (hr : vx_Run p l e R s m args below meth c H locs cells slots mc ms (F0 m pc ls st0) rest (va_Qi post B A1 a) (vx_X px BX AX) free) (hS : va_S A0 H0 H locs) (hA : ∀ q, q < H.size → A1 q → A0 q) (hf : ∀ q, free q → A0 q) (hAX : ∀ q, q < H.size → AX q → A0 q)
    (kx : ∀ (E : String) (ce : Cell) (q9 : Addr) (u : SX) (t : State) (H1 : Heap) (locs1 : List Loc), t.heap = H1 → s.vm.Alike t.vm → px u → BX E u t → H.size ≤ H1.size → (∀ q : Nat, q < H.size → ¬ AX q → H1[q]? = H[q]?) → va_S A0 H0 H1 locs1 → H1[q9]? = some ce → ce.vm = .none → s.vm.findClass E = some ce.cls → vx_W p l e R s m args below meth c H1 locs1 (cells + mc) (slots + ms) Q (F0 m pc ls rest) q9)
    (kk : ∀ (r : Int32) (u : S) (t : State) (H1 : Heap) (locs1 : List Loc), t.heap = H1 → s.vm.Alike t.vm → post r u → B u t → H.size ≤ H1.size → (∀ q : Nat, q < H.size → ¬ A1 q → H1[q]? = H[q]?) → va_S A0 H0 H1 locs1 → W p l e R s m args below meth c H1 locs1 (cells + mc) (slots + ms) Q (F0 m (pc + 3) ls (.int r :: rest))) : W p l e R s m args below meth c H locs cells slots Q (F0 m pc ls st0) := by
  intro T hT X
  rcases hr T hT X with ⟨v, st₀, t, T', L, h0, X', hL, e1, e2, ⟨⟨r, u, hv, hp, hb⟩, hF⟩, st⟩ | ⟨q, st₀, t, T', L, E, ce, h0, X', hL, e1, e2, ⟨u, hp, hb, hF⟩, hce, hcv, hcl, st⟩
  · cases hv
    obtain ⟨k1, k2, k3⟩ := vx_keep h0 e1 hS hA hf hL hF
    obtain ⟨t2, a1, b1⟩ := kk r u t T'.heap (locs ++ L) e1.symm (by rw [← e2]; exact X'.warmed.alike) hp hb k1 k2 k3 T' rfl X'
    exact ⟨t2, st t2 a1, b1⟩
  · obtain ⟨k1, k2, k3⟩ := vx_keep h0 e1 hS hAX hf hL hF
    obtain ⟨t2, a1, b1⟩ := kx E ce q u t T'.heap (locs ++ L) e1.symm (by rw [← e2]; exact X'.warmed.alike) hp hb k1 k2 k3 (by rw [e1]; exact hce) hcv hcl T' rfl X'
    exact ⟨t2, st.trans a1, b1⟩
theorem vx_calll {S SX : Type} {post : Int64 → S → Prop} {px : SX → Prop} {B : S → State → Prop} {BX : String → SX → State → Prop} {AX : Nat → Prop} (hr : vx_Run p l e R s m args below meth c H locs cells slots mc ms (F0 m pc ls st0) rest (va_Ql post B A1 a) (vx_X px BX AX) free) (hS : va_S A0 H0 H locs) (hA : ∀ q, q < H.size → A1 q → A0 q) (hf : ∀ q, free q → A0 q) (hAX : ∀ q, q < H.size → AX q → A0 q)
    (kx : ∀ (E : String) (ce : Cell) (q9 : Addr) (u : SX) (t : State) (H1 : Heap) (locs1 : List Loc), t.heap = H1 → s.vm.Alike t.vm → px u → BX E u t → H.size ≤ H1.size → (∀ q : Nat, q < H.size → ¬ AX q → H1[q]? = H[q]?) → va_S A0 H0 H1 locs1 → H1[q9]? = some ce → ce.vm = .none → s.vm.findClass E = some ce.cls → vx_W p l e R s m args below meth c H1 locs1 (cells + mc) (slots + ms) Q (F0 m pc ls rest) q9)
    (kk : ∀ (r : Int64) (u : S) (t : State) (H1 : Heap) (locs1 : List Loc), t.heap = H1 → s.vm.Alike t.vm → post r u → B u t → H.size ≤ H1.size → (∀ q : Nat, q < H.size → ¬ A1 q → H1[q]? = H[q]?) → va_S A0 H0 H1 locs1 → W p l e R s m args below meth c H1 locs1 (cells + mc) (slots + ms) Q (F0 m (pc + 3) ls (.long r :: rest))) : W p l e R s m args below meth c H locs cells slots Q (F0 m pc ls st0) := by
  intro T hT X
  rcases hr T hT X with ⟨v, st₀, t, T', L, h0, X', hL, e1, e2, ⟨⟨r, u, hv, hp, hb⟩, hF⟩, st⟩ | ⟨q, st₀, t, T', L, E, ce, h0, X', hL, e1, e2, ⟨u, hp, hb, hF⟩, hce, hcv, hcl, st⟩
  · cases hv
    obtain ⟨k1, k2, k3⟩ := vx_keep h0 e1 hS hA hf hL hF
    obtain ⟨t2, a1, b1⟩ := kk r u t T'.heap (locs ++ L) e1.symm (by rw [← e2]; exact X'.warmed.alike) hp hb k1 k2 k3 T' rfl X'
    exact ⟨t2, st t2 a1, b1⟩
  · obtain ⟨k1, k2, k3⟩ := vx_keep h0 e1 hS hAX hf hL hF
    obtain ⟨t2, a1, b1⟩ := kx E ce q u t T'.heap (locs ++ L) e1.symm (by rw [← e2]; exact X'.warmed.alike) hp hb k1 k2 k3 (by rw [e1]; exact hce) hcv hcl T' rfl X'
    exact ⟨t2, st.trans a1, b1⟩
theorem vx_callf {S SX : Type} {post : UInt32 → S → Prop} {px : SX → Prop} {B : S → State → Prop} {BX : String → SX → State → Prop} {AX : Nat → Prop} (hr : vx_Run p l e R s m args below meth c H locs cells slots mc ms (F0 m pc ls st0) rest (va_Qf post B A1 a) (vx_X px BX AX) free) (hS : va_S A0 H0 H locs) (hA : ∀ q, q < H.size → A1 q → A0 q) (hf : ∀ q, free q → A0 q) (hAX : ∀ q, q < H.size → AX q → A0 q)
    (kx : ∀ (E : String) (ce : Cell) (q9 : Addr) (u : SX) (t : State) (H1 : Heap) (locs1 : List Loc), t.heap = H1 → s.vm.Alike t.vm → px u → BX E u t → H.size ≤ H1.size → (∀ q : Nat, q < H.size → ¬ AX q → H1[q]? = H[q]?) → va_S A0 H0 H1 locs1 → H1[q9]? = some ce → ce.vm = .none → s.vm.findClass E = some ce.cls → vx_W p l e R s m args below meth c H1 locs1 (cells + mc) (slots + ms) Q (F0 m pc ls rest) q9)
    (kk : ∀ (r : UInt32) (u : S) (t : State) (H1 : Heap) (locs1 : List Loc), t.heap = H1 → s.vm.Alike t.vm → post r u → B u t → H.size ≤ H1.size → (∀ q : Nat, q < H.size → ¬ A1 q → H1[q]? = H[q]?) → va_S A0 H0 H1 locs1 → W p l e R s m args below meth c H1 locs1 (cells + mc) (slots + ms) Q (F0 m (pc + 3) ls (.float r :: rest))) : W p l e R s m args below meth c H locs cells slots Q (F0 m pc ls st0) := by
  intro T hT X
  rcases hr T hT X with ⟨v, st₀, t, T', L, h0, X', hL, e1, e2, ⟨⟨r, u, hv, hp, hb⟩, hF⟩, st⟩ | ⟨q, st₀, t, T', L, E, ce, h0, X', hL, e1, e2, ⟨u, hp, hb, hF⟩, hce, hcv, hcl, st⟩
  · cases hv
    obtain ⟨k1, k2, k3⟩ := vx_keep h0 e1 hS hA hf hL hF
    obtain ⟨t2, a1, b1⟩ := kk r u t T'.heap (locs ++ L) e1.symm (by rw [← e2]; exact X'.warmed.alike) hp hb k1 k2 k3 T' rfl X'
    exact ⟨t2, st t2 a1, b1⟩
  · obtain ⟨k1, k2, k3⟩ := vx_keep h0 e1 hS hAX hf hL hF
    obtain ⟨t2, a1, b1⟩ := kx E ce q u t T'.heap (locs ++ L) e1.symm (by rw [← e2]; exact X'.warmed.alike) hp hb k1 k2 k3 (by rw [e1]; exact hce) hcv hcl T' rfl X'
    exact ⟨t2, st.trans a1, b1⟩
theorem vx_calld {S SX : Type} {post : UInt64 → S → Prop} {px : SX → Prop} {B : S → State → Prop} {BX : String → SX → State → Prop} {AX : Nat → Prop} (hr : vx_Run p l e R s m args below meth c H locs cells slots mc ms (F0 m pc ls st0) rest (va_Qd post B A1 a) (vx_X px BX AX) free) (hS : va_S A0 H0 H locs) (hA : ∀ q, q < H.size → A1 q → A0 q) (hf : ∀ q, free q → A0 q) (hAX : ∀ q, q < H.size → AX q → A0 q)
    (kx : ∀ (E : String) (ce : Cell) (q9 : Addr) (u : SX) (t : State) (H1 : Heap) (locs1 : List Loc), t.heap = H1 → s.vm.Alike t.vm → px u → BX E u t → H.size ≤ H1.size → (∀ q : Nat, q < H.size → ¬ AX q → H1[q]? = H[q]?) → va_S A0 H0 H1 locs1 → H1[q9]? = some ce → ce.vm = .none → s.vm.findClass E = some ce.cls → vx_W p l e R s m args below meth c H1 locs1 (cells + mc) (slots + ms) Q (F0 m pc ls rest) q9)
    (kk : ∀ (r : UInt64) (u : S) (t : State) (H1 : Heap) (locs1 : List Loc), t.heap = H1 → s.vm.Alike t.vm → post r u → B u t → H.size ≤ H1.size → (∀ q : Nat, q < H.size → ¬ A1 q → H1[q]? = H[q]?) → va_S A0 H0 H1 locs1 → W p l e R s m args below meth c H1 locs1 (cells + mc) (slots + ms) Q (F0 m (pc + 3) ls (.double r :: rest))) : W p l e R s m args below meth c H locs cells slots Q (F0 m pc ls st0) := by
  intro T hT X
  rcases hr T hT X with ⟨v, st₀, t, T', L, h0, X', hL, e1, e2, ⟨⟨r, u, hv, hp, hb⟩, hF⟩, st⟩ | ⟨q, st₀, t, T', L, E, ce, h0, X', hL, e1, e2, ⟨u, hp, hb, hF⟩, hce, hcv, hcl, st⟩
  · cases hv
    obtain ⟨k1, k2, k3⟩ := vx_keep h0 e1 hS hA hf hL hF
    obtain ⟨t2, a1, b1⟩ := kk r u t T'.heap (locs ++ L) e1.symm (by rw [← e2]; exact X'.warmed.alike) hp hb k1 k2 k3 T' rfl X'
    exact ⟨t2, st t2 a1, b1⟩
  · obtain ⟨k1, k2, k3⟩ := vx_keep h0 e1 hS hAX hf hL hF
    obtain ⟨t2, a1, b1⟩ := kx E ce q u t T'.heap (locs ++ L) e1.symm (by rw [← e2]; exact X'.warmed.alike) hp hb k1 k2 k3 (by rw [e1]; exact hce) hcv hcl T' rfl X'
    exact ⟨t2, st.trans a1, b1⟩
theorem vx_callv {S SX : Type} {post : S → Prop} {px : SX → Prop} {B : S → State → Prop} {BX : String → SX → State → Prop} {AX : Nat → Prop} (hr : vx_Run p l e R s m args below meth c H locs cells slots mc ms (F0 m pc ls st0) rest (va_Qv post B A1 a) (vx_X px BX AX) free) (hS : va_S A0 H0 H locs) (hA : ∀ q, q < H.size → A1 q → A0 q) (hf : ∀ q, free q → A0 q) (hAX : ∀ q, q < H.size → AX q → A0 q)
    (kx : ∀ (E : String) (ce : Cell) (q9 : Addr) (u : SX) (t : State) (H1 : Heap) (locs1 : List Loc), t.heap = H1 → s.vm.Alike t.vm → px u → BX E u t → H.size ≤ H1.size → (∀ q : Nat, q < H.size → ¬ AX q → H1[q]? = H[q]?) → va_S A0 H0 H1 locs1 → H1[q9]? = some ce → ce.vm = .none → s.vm.findClass E = some ce.cls → vx_W p l e R s m args below meth c H1 locs1 (cells + mc) (slots + ms) Q (F0 m pc ls rest) q9)
    (kk : ∀ (u : S) (t : State) (H1 : Heap) (locs1 : List Loc), t.heap = H1 → s.vm.Alike t.vm → post u → B u t → H.size ≤ H1.size → (∀ q : Nat, q < H.size → ¬ A1 q → H1[q]? = H[q]?) → va_S A0 H0 H1 locs1 → W p l e R s m args below meth c H1 locs1 (cells + mc) (slots + ms) Q (F0 m (pc + 3) ls (rest))) : W p l e R s m args below meth c H locs cells slots Q (F0 m pc ls st0) := by
  intro T hT X
  rcases hr T hT X with ⟨v, st₀, t, T', L, h0, X', hL, e1, e2, ⟨⟨u, hv, hp, hb⟩, hF⟩, st⟩ | ⟨q, st₀, t, T', L, E, ce, h0, X', hL, e1, e2, ⟨u, hp, hb, hF⟩, hce, hcv, hcl, st⟩
  · cases hv
    obtain ⟨k1, k2, k3⟩ := vx_keep h0 e1 hS hA hf hL hF
    obtain ⟨t2, a1, b1⟩ := kk u t T'.heap (locs ++ L) e1.symm (by rw [← e2]; exact X'.warmed.alike) hp hb k1 k2 k3 T' rfl X'
    exact ⟨t2, st t2 a1, b1⟩
  · obtain ⟨k1, k2, k3⟩ := vx_keep h0 e1 hS hAX hf hL hF
    obtain ⟨t2, a1, b1⟩ := kx E ce q u t T'.heap (locs ++ L) e1.symm (by rw [← e2]; exact X'.warmed.alike) hp hb k1 k2 k3 (by rw [e1]; exact hce) hcv hcl T' rfl X'
    exact ⟨t2, st.trans a1, b1⟩
/-- caught by the row x of this method's table; the rows ahead don't take it -/
theorem vx_catch {own name : String} {E : String} {ce : Cell} {q : Addr} (hown : s.vm.findClass own = some m.cls) (pre : List ExceptionTableEntry) (x : ExceptionTableEntry) (suf : List ExceptionTableEntry) (hsplit : c.exceptionTable.toList = pre ++ x :: suf)
    (hpass : ∀ z ∈ pre, covers z pc = false ∨ (z.catchType ≠ 0 ∧ ∃ nm : String, (Cond.classLink own z.catchType nm).before args s = true ∧ va_Nc E nm s)) (hx : covers x pc = true) (h0 : x.catchType ≠ 0)
    (hlink : (Cond.classLink own x.catchType name).before args s = true) (hcast : (Cond.castable E name).before args s = true) (hcell : H[q]? = some ce) (hv : ce.vm = .none) (hcl : s.vm.findClass E = some ce.cls)
    (kk : W p l e R s m args below meth c H locs cells slots Q (F0 m x.handlerPc ls [.ref q])) : vx_W p l e R s m args below meth c H locs cells slots Q (F0 m pc ls rest) q := by
  intro T hT X
  have hpl : e.platform.magicAccessors = ({} : Platform).magicAccessors := by rw [X.admits.platform]
  obtain ⟨c3, c4, hc3, hc4, hasg⟩ := Cond.castable_spec hcast
  cases Option.some.inj (hc3.symm.trans hcl)
  obtain ⟨c5, hc5, hcl5⟩ := Cond.classLink_spec hown hlink e.platform hpl
  cases Option.some.inj (hc4.symm.trans hc5)
  obtain ⟨vm', X', st⟩ := X.thenCaughtThrough q (g := F0 m pc ls rest) rfl (Steps.refl _) (by rw [hT]; exact hcell) (by rw [hv]; rfl) (by obtain ⟨k9, h9, -⟩ := Vm.findClass_spec hcl; exact ⟨k9, h9⟩) pre x suf hsplit
    (fun z hz => by
      rcases hpass z hz with h | ⟨hz0, nm, hl1, hn1⟩
      · exact Or.inl h
      · obtain ⟨c6, hc6, hcl6⟩ := Cond.classLink_spec hown hl1 e.platform hpl
        obtain ⟨a8, b8, h1, h2, h3⟩ := hn1
        cases Option.some.inj (h1.symm.trans hcl)
        cases Option.some.inj (h2.symm.trans hc6)
        exact Or.inr ⟨hz0, _, hcl6, h3⟩) hx (Or.inr ⟨h0, c4, hcl5, hasg⟩)
  obtain ⟨t, a1, b1⟩ := kk (T.setVm vm') hT X'
  exact ⟨t, st.trans a1, b1⟩
end Rows
section Ends
variable {p : Program} {l : Launch} {e : Env} {R : Room} {s : State} {m : MethodId} {args : Array Value} {below : List Frame} {meth : Method} {c : Code} {H : Heap} {locs : List Loc} {cells slots : Nat} {Q : State → Prop}
variable {mc ms : Nat} {free : Addr → Prop} {A0 A1 : Nat → Prop} {H0 : Heap} {a : Array Value} {ls : Array Slot} {st0 rest : List Value}
variable {Qc : Array Value → State → Outcome → State → Prop} {XC : String → State → State → Prop}
/-- what a body that may throw owes at its end -/
def vx_MQ (below : List Frame) (Qc : Array Value → State → Outcome → State → Prop) (XC : String → State → State → Prop) (a : Array Value) (s : State) (mc ms : Nat) (free : Addr → Prop) : State → Prop := fun t =>
  ∃ o, t.status = .running ∧ Ended t below o ∧ vx_Q Qc XC mc ms free a s o t
theorem vx_ret {g : JFrame} {mc ms : Nat} (k : W p l e R s m args below meth c H locs cells slots (MQ below Qc args s mc ms free) g) : W p l e R s m args below meth c H locs cells slots (vx_MQ below Qc XC args s mc ms free) g := by
  intro T hT X
  obtain ⟨t, a1, o, b1, b2, b3, b4⟩ := k T hT X
  exact ⟨t, a1, o, b1, b2, Or.inl ⟨b3, b4⟩⟩
/-- not caught here: it goes on to the caller -/
theorem vx_widen {g : JFrame} {q : Addr} {k n : Nat} (h1 : cells ≤ k) (h2 : slots ≤ n) (kk : vx_W p l e R s m args below meth c H locs k n Q g q) : vx_W p l e R s m args below meth c H locs cells slots Q g q := fun T hT X => kk T hT (stand_widen X h1 h2)
theorem vx_out {pc : Nat} {E : String} {ce : Cell} {q : Addr} {mc ms : Nat} (hout : ∀ x ∈ c.exceptionTable.toList, covers x pc = false) (hlocks : meth.locks = false) (hcell : H[q]? = some ce) (hv : ce.vm = .none) (hcl : s.vm.findClass E = some ce.cls)
    (hx : ∀ t : State, t.heap = H → s.vm.Alike t.vm → XC E s t) (hf : ∀ z ∈ locs, free z.base) (hc : cells ≤ mc) (hs : slots ≤ ms) :
    vx_W p l e R s m args below meth c H locs cells slots (vx_MQ below Qc XC args s mc ms free) (F0 m pc ls rest) q := by
  intro T hT X
  obtain ⟨st1, hrun, hend, hW, hsm⟩ := X.leaveThrown q (g := F0 m pc ls rest) rfl rfl rfl hout hlocks
  have hcell9 : (T.setFrames (.throwing q :: below)).heap[q]? = some ce := by
    show T.heap[q]? = some ce
    rw [hT]; exact hcell
  exact ⟨_, st1, .threw q, hrun, hend, Or.inr ⟨q, rfl, E, ce, locs, hx _ hT hW.alike, hcell9, hv, hcl, hW, hsm.mono hc hs, hf⟩⟩
theorem vx_frame {U : State} {k n : Nat} (h : s.sameButNew ({ U with vm := s.vm } : State) locs k n) : s.heap.size ≤ U.heap.size ∧ ∀ q : Nat, q < s.heap.size → (∀ z ∈ locs, z.base ≠ q) → U.heap[q]? = s.heap[q]? := by
  obtain ⟨-, h2, -, -, -, h6⟩ := h
  refine ⟨h2, fun q hq hz => ?_⟩
  obtain ⟨c9, e1, e2, e3, e4⟩ := h6 q _ (Array.getElem?_eq_getElem hq)
  have hs : c9.slots = (s.heap[q]).slots := Array.ext_getElem? fun i => e4 i fun hm => hz _ hm rfl
  have h9 : c9 = s.heap[q] := by
    rw [hs] at e2
    exact e2
  have e5 : U.heap[q]? = some c9 := e1
  rw [e5, h9, Array.getElem?_eq_getElem hq]
/-- the words of a throw but the four that speak of the heap -/
def vx_no (w : Cond) : Bool := decide (w ≠ .isRef (.static Bundle.tN "UNASSIGNED_STACK" Bundle.steD)) && decide (w ≠ .isRef (.static Bundle.tN "SUPPRESSED_SENTINEL" Bundle.listD)) && decide (w ≠ .laysStatic Bundle.tN "UNASSIGNED_STACK" Bundle.steD) && decide (w ≠ .laysStatic Bundle.tN "SUPPRESSED_SENTINEL" Bundle.listD)
def vx_at0 (own : String) (ic : Nat) (X : String) (names : List String) : List Cond := (Bundle.ownAtoms0 own ic X names).filter vx_no
def vx_atS (own : String) (ic : Nat) (X : String) (names : List String) : List Cond := (Bundle.ownAtoms own ic X names).filter vx_no
/-- a word that the tables alone decide, or a good one -/
def vx_ot (w : Cond) : Bool := w.onTables || goodWord w
theorem vx_ot_at {args a' : Array Value} {s U : State} {w : Cond} (hW : s.WarmedH U.vm) (hvm : s.vm = U.vm) (hg : vx_ot w = true) (h : w.before args s = true) : w.before a' U = true := by
  simp only [vx_ot, Bool.or_eq_true] at hg
  rcases hg with hg | hg
  · exact va_tabs hg hvm h
  · exact word_at hW (good_of_word hg) h
/-- a list's words: the good ones out of the method's own list, the others by premises of their own -/
theorem vx_hat {args : Array Value} {s : State} {L B : List Cond} (h1 : ∀ w ∈ L.filter goodWord, w.before args s = true) (h2 : ∀ w ∈ L.filter (fun w => !goodWord w), w ∈ B) (h3 : ∀ w ∈ B, w.before args s = true) : ∀ w ∈ L, w.before args s = true := by
  intro w hw
  by_cases g : goodWord w = true
  · exact h1 w (List.mem_filter.mpr ⟨hw, g⟩)
  · refine h3 w (h2 w (List.mem_filter.mpr ⟨hw, ?_⟩))
    show (!goodWord w) = true
    cases hgw : goodWord w
    · rfl
    · exact absurd hgw g
theorem vx_c {args : Array Value} {s : State} {w : Cond} {B : List Cond} (h : w.before args s = true) (t : ∀ w ∈ B, w.before args s = true) : ∀ w' ∈ w :: B, w'.before args s = true := fun w' h' => (List.mem_cons.mp h').elim (fun e => by rw [e]; exact h) (t w')
theorem vx_n {args : Array Value} {s : State} : ∀ w ∈ ([] : List Cond), w.before args s = true := fun _ h => nomatch h
theorem vx_own {args : Array Value} {s : State} {L : List Cond} (h1 : ∀ w ∈ L.filter vx_no, w.before args s = true)
    (hU : (Cond.isRef (.static Bundle.tN "UNASSIGNED_STACK" Bundle.steD)).before args s = true) (hN : (Cond.isRef (.static Bundle.tN "SUPPRESSED_SENTINEL" Bundle.listD)).before args s = true)
    (lU : (Cond.laysStatic Bundle.tN "UNASSIGNED_STACK" Bundle.steD).before args s = true) (lN : (Cond.laysStatic Bundle.tN "SUPPRESSED_SENTINEL" Bundle.listD).before args s = true) : ∀ w ∈ L, w.before args s = true := by
  intro w hw
  by_cases e1 : w = .isRef (.static Bundle.tN "UNASSIGNED_STACK" Bundle.steD)
  · rw [e1]; exact hU
  · by_cases e2 : w = .isRef (.static Bundle.tN "SUPPRESSED_SENTINEL" Bundle.listD)
    · rw [e2]; exact hN
    · by_cases e3 : w = .laysStatic Bundle.tN "UNASSIGNED_STACK" Bundle.steD
      · rw [e3]; exact lU
      · by_cases e4 : w = .laysStatic Bundle.tN "SUPPRESSED_SENTINEL" Bundle.listD
        · rw [e4]; exact lN
        · exact h1 w (List.mem_filter.mpr ⟨hw, by unfold vx_no; rw [decide_eq_true e1, decide_eq_true e2, decide_eq_true e3, decide_eq_true e4]; rfl⟩)
/-- where a static field lies, its class's statics cell in H -/
def vx_L (C n d : String) (A : Nat → Prop) (U : State) (H : Heap) : Prop := ∃ (c : ClassId) (k : Class) (i : Nat) (f : Field) (a : Nat) (cell : Cell), U.vm.findClass C = some c ∧ U.fieldFound? C n d = some (c, k, i, f) ∧ f.isStatic = true ∧ k.statics = some a ∧ H[a]? = some cell ∧ cell.vm.isStatics = true ∧ cell.cls = c ∧ f.slot < cell.slots.size ∧ k.staticTypes[f.slot]? = some f.type ∧ ¬ A a
theorem vx_L.moved {C n d : String} {A : Nat → Prop} {u U : State} {H : Heap} (hvm : u.vm.Alike U.vm) (h : vx_L C n d A u H) : vx_L C n d A U H := by
  obtain ⟨c, k, i, f, a, cell, h1, h2, h3, h4, h5, h6, h7, h8, h9, h10⟩ := h
  obtain ⟨k', hi', he⟩ := State.fieldFound?_setVm hvm h2
  exact ⟨c, k', i, f, a, cell, by rw [hvm.findClass]; exact h1, hi', h3, by rw [he]; exact h4, h5, h6, h7, h8, by rw [he]; exact h9, h10⟩
theorem vx_L.kept {C n d : String} {A : Nat → Prop} {U : State} {H H1 : Heap} (h : vx_L C n d A U H) (hq : ∀ a : Nat, a < H.size → ¬ A a → H1[a]? = H[a]?) : vx_L C n d A U H1 := by
  obtain ⟨c, k, i, f, a, cell, h1, h2, h3, h4, h5, h6, h7, h8, h9, h10⟩ := h
  exact ⟨c, k, i, f, a, cell, h1, h2, h3, h4, by rw [hq a (Array.getElem?_eq_some_iff.mp h5).1 h10]; exact h5, h6, h7, h8, h9, h10⟩
theorem vx_L.narrow {C n d : String} {A B : Nat → Prop} {U : State} {H : Heap} (h : vx_L C n d A U H) (hAB : ∀ q, B q → A q) : vx_L C n d B U H := by
  obtain ⟨c, k, i, f, a, cell, h1, h2, h3, h4, h5, h6, h7, h8, h9, h10⟩ := h
  exact ⟨c, k, i, f, a, cell, h1, h2, h3, h4, h5, h6, h7, h8, h9, fun z => h10 (hAB _ z)⟩
theorem vx_L.word {C n d : String} {A : Nat → Prop} {s : State} {args : Array Value} (h : vx_L C n d A s s.heap) : (Cond.laysStatic C n d).before args s = true := by
  obtain ⟨c, k, i, f, a, cell, h1, h2, h3, h4, h5, h6, h7, h8, h9, -⟩ := h
  show (Cond.laysStatic C n d).holds args s none s [] = true
  exact Cond.laysStatic_of h1 h2 h3 h4 h5 h6 h7 h8 h9
/-- .. and what it holds: null or some reference -/
def vx_Zq (C n d : String) (A : Nat → Prop) (U : State) (H : Heap) : Prop := va_Zq C n d A U H ∧ vx_L C n d A U H
theorem vx_Zq.moved {C n d : String} {A : Nat → Prop} {u U : State} {H : Heap} (hvm : u.vm.Alike U.vm) (h : vx_Zq C n d A u H) : vx_Zq C n d A U H := ⟨va_Zq.moved hvm h.1, vx_L.moved hvm h.2⟩
theorem vx_Zq.kept {C n d : String} {A : Nat → Prop} {U : State} {H H1 : Heap} (h : vx_Zq C n d A U H) (hq : ∀ a : Nat, a < H.size → ¬ A a → H1[a]? = H[a]?) : vx_Zq C n d A U H1 := ⟨va_Zq.kept h.1 hq, vx_L.kept h.2 hq⟩
theorem vx_Zq.narrow {C n d : String} {A B : Nat → Prop} {U : State} {H : Heap} (h : vx_Zq C n d A U H) (hAB : ∀ q, B q → A q) : vx_Zq C n d B U H := ⟨va_Zq.narrow h.1 hAB, vx_L.narrow h.2 hAB⟩
theorem vx_Zqof {args : Array Value} {s : State} {C n d : String} {A : Nat → Prop} (hl : (Cond.laysStatic C n d).before args s = true) (hini : (Cond.initialized C).before args s = true) (h : (Cond.isRef (.static C n d)).before args s = true) (hA : ∀ a : Nat, a < s.heap.size → ¬ A a) : vx_Zq C n d A s s.heap := by
  refine ⟨va_Zqof hl hini h hA, ?_⟩
  obtain ⟨c, k, i, f, a, cell, h1, h2, h3, h4, h5, h6, h7, h8, h9⟩ := Cond.laysStatic_spec hl
  exact ⟨c, k, i, f, a, cell, h1, h2, h3, h4, h5, h6, h7, h8, h9, hA a (Array.getElem?_eq_some_iff.mp h5).1⟩
theorem vx_isRef {C n d : String} {v : Value} {A : Nat → Prop} {s : State} {args : Array Value} (h : va_Z C n d v A s s.heap) (hv : v.isRef = true) : (Cond.isRef (.static C n d)).before args s = true := by
  obtain ⟨cf, kf, fi, f, a, cell, h1, h2, h3, h4, h5, h6, h7, -⟩ := h
  have he : (Term.static C n d).eval args s none [] s = some v := by
    simp [Term.eval, State.fieldNamed?, h1, h2, h4, h5, h6, h7]
  simp only [Cond.before, Cond.holds, Cond.value, he]
  cases v <;> simp_all [Value.isRef]
theorem vx_isRefq {C n d : String} {A : Nat → Prop} {s : State} {args : Array Value} (h : va_Zq C n d A s s.heap) : (Cond.isRef (.static C n d)).before args s = true := by
  rcases h with h | ⟨t, h⟩
  · exact vx_isRef h rfl
  · exact vx_isRef h rfl
/-- the same frame, seen from here: as if the method were called anew in this heap -/
theorem vx_rebase {T : State} (X : Stand p l e R s m args below meth c T locs cells slots) {R' : Room} (hf : R'.frames ≤ R.frames) (hl : R'.locals ≤ R.locals) (hc : cells + R'.cells ≤ R.cells) (hs : slots + R'.slots ≤ R.slots) :
    Stand p l e R' ((T.setVm s.vm).setFrames (.invoking m args :: below)) m args below meth c T [] 0 0 := by
  have htop : (T.setVm s.vm).topJava?.isSome := X.here.top
  have hF : ((T.setVm s.vm).setFrames (.invoking m args :: below)).frames = .invoking m args :: below := State.frames_setFrames _ (State.cur_lt_of_top htop)
  obtain ⟨g₀, hg0⟩ := Option.isSome_iff_exists.mp htop
  obtain ⟨r, hr⟩ := State.topJava?_eq_some.mp hg0
  have hl9 : e.platform.stackLimits (T.setVm s.vm).me = e.platform.stackLimits s.me := X.limits
  have hb9 : (T.setVm s.vm).me.stackBytes = s.me.stackBytes := X.bytes
  refine ⟨X.admits, X.cas, X.clock, hF, ?_, X.hears, X.method, X.code, X.here, X.tail, X.warmed, ?_, ?_, ?_⟩
  · have h := X.room
    have hU : ((T.setVm s.vm).setFrames (.invoking m args :: below)).localsInUse = s.localsInUse := by
      rw [State.localsInUse_invoking hF (meth := meth) (c := c) X.method X.code, State.localsInUse_invoking X.frames X.method X.code]
    simp only [State.hasRoom, Bool.and_eq_true, decide_eq_true_eq] at h ⊢
    obtain ⟨⟨⟨⟨h1, h2, h3, h4, h5, h6⟩, h7⟩, h8⟩, h9⟩ := h
    rw [X.frames, List.length_cons] at h2 h3
    have q1 := X.heapSize
    have q2 := X.used
    simp only [hF, hU, List.length_cons, State.stackLimits_setFrames, State.stackBytes_setFrames, hl9, hb9]
    refine ⟨⟨⟨⟨by omega, by omega, by omega, by omega, by omega, h6⟩, ?_⟩, ?_⟩, X.book⟩
    · show T.heap.size + R'.cells ≤ e.platform.maxCells
      omega
    · show T.slotsUsed + R'.slots ≤ e.platform.maxSlots
      omega
  · rw [State.stackLimits_setFrames]; rfl
  · rw [State.stackBytes_setFrames]; rfl
  · refine ⟨?_, Nat.le_refl _, Nat.le_refl _, ?_, ?_, fun a c9 h9 => ⟨c9, h9, rfl, rfl, fun _ _ => rfl⟩⟩
    · obtain ⟨t, ht, -⟩ := State.frames_cons hr
      show T.setVm s.vm = { ((T.setVm s.vm).setFrames (.invoking m args :: below)).setFrames (T.setVm s.vm).frames with heap := T.heap, slotsUsed := T.slotsUsed }
      rw [State.setFrames_setFrames, State.setFrames_self ht]
      rfl
    · show T.slotsUsed = T.slotsUsed + ((T.heap.toList.drop T.heap.size).map (·.slots.size)).sum
      rw [List.drop_eq_nil_of_le (Nat.le_of_eq Array.length_toList)]
      rfl
    · show ((T.heap.toList.drop T.heap.size).map (·.slots.size)).sum ≤ 0
      rw [List.drop_eq_nil_of_le (Nat.le_of_eq Array.length_toList)]
      exact Nat.le_refl _
/-- 'throw new E()': new; dup; invokespecial; athrow -/
theorem vx_throw0 {cc : ByteArray} {pc : Nat} (hexec : p.tables.exec = Jvm.exec) (hb : c.code = cc) (hl : l.stackTraces = false) {own cls : String} {names : List String} {ik ic mc ms : Nat} {A : Nat → Prop}
    (hown : s.vm.findClass own = some m.cls) (hcls : Bundle.fit cls = true) (hnames : ∀ n ∈ names, Bundle.fit n = true)
    (hk : (Cond.classLink own ik cls).before args s = true) (hini : (Cond.initialized cls).before args s = true) (hat : ∀ w ∈ vx_at0 own ic cls names, w.before args s = true)
    (hgood : ∀ w ∈ Cond.classLink own ik cls :: Cond.initialized cls :: vx_at0 own ic cls names, vx_ot w = true)
    (hU : vx_Zq Bundle.tN "UNASSIGNED_STACK" Bundle.steD A s s.heap) (hN : vx_Zq Bundle.tN "SUPPRESSED_SENTINEL" Bundle.listD A s s.heap) (hS : va_S A s.heap H locs) (hsize : ls.size = c.maxLocals)
    (d0 : decode cc pc = .ok (.new ik, 3)) (d3 : decode cc (pc + 3) = .ok (.dup, 1)) (d4 : decode cc (pc + 4) = .ok (.invokespecial ic, 3)) (d7 : decode cc (pc + 7) = .ok (.athrow, 1))
    (hout : ∀ x ∈ c.exceptionTable.toList, covers x (pc + 7) = false)
    (hRframes : names.length + 3 < R.frames) (hRlocals : (rest.map fun v => v.category).sum + (13 * (names.length + 1) + 42) ≤ R.locals) (hRcells : cells + 1 ≤ R.cells) (hRslots : slots + 6 ≤ R.slots) (hlocks : meth.locks = false)
    (hx : ∀ t : State, s.vm.Alike t.vm → H.size ≤ t.heap.size → (∀ q : Nat, q < H.size → t.heap[q]? = H[q]?) → XC cls s t)
    (hf : ∀ z ∈ locs, free z.base) (hc : cells + 1 ≤ mc) (hs : slots + 6 ≤ ms) :
    W p l e R s m args below meth c H locs cells slots (vx_MQ below Qc XC args s mc ms free) (F0 m pc ls rest) := by
  intro T hT X
  have htr : e.platform.stackTraces = false := (show e.platform.stackTraces = l.stackTraces by rw [X.admits.platform]).trans hl
  have Y := vx_rebase X (R' := { frames := R.frames, locals := R.locals, cells := 1, slots := 6 }) (Nat.le_refl _) (Nat.le_refl _) hRcells hRslots
  obtain ⟨s', hA⟩ : ∃ z, z = (T.setVm s.vm).setFrames (.invoking m args :: below) := ⟨_, rfl⟩
  rw [← hA] at Y
  have hvm : s'.vm = s.vm := by rw [hA]; rfl
  have hhp : s'.heap = H := by rw [hA]; exact hT
  have hW0 : s.WarmedH s'.vm := by rw [hvm]; exact State.WarmedH.refl s
  have hat' : ∀ w ∈ vx_at0 own ic cls names, w.before args s' = true := fun w hw => vx_ot_at hW0 hvm.symm (hgood w (List.mem_cons_of_mem _ (List.mem_cons_of_mem _ hw))) (hat w hw)
  have hk' : (Cond.classLink own ik cls).before args s' = true := vx_ot_at hW0 hvm.symm (hgood _ List.mem_cons_self) hk
  have hini' : (Cond.initialized cls).before args s' = true := vx_ot_at hW0 hvm.symm (hgood _ (List.mem_cons_of_mem _ List.mem_cons_self)) hini
  have hU' : vx_Zq Bundle.tN "UNASSIGNED_STACK" Bundle.steD A s' s'.heap := by rw [hhp]; exact vx_Zq.moved hW0.alike (hU.kept hS.2.1)
  have hN' : vx_Zq Bundle.tN "SUPPRESSED_SENTINEL" Bundle.listD A s' s'.heap := by rw [hhp]; exact vx_Zq.moved hW0.alike (hN.kept hS.2.1)
  have h : ∀ w ∈ Bundle.ownAtoms0 own ic cls names, w.before args s' = true := vx_own hat' (vx_isRefq hU'.1) (vx_isRefq hN'.1) hU'.2.word hN'.2.word
  have hown' : s'.vm.findClass own = some m.cls := by rw [hvm]; exact hown
  have hins : (Cond.instantiable cls 6).before args s' = true := h _ (by simp [Bundle.ownAtoms0])
  obtain ⟨vm₁, cX, kX, hfX, hkX, -, -, X₁, st1⟩ := Y.newCold hexec (own := own) (C := cls) (index := ik) (n := 6) hown' hk' hins hini'
    (g := F0 m pc ls rest) rfl (by rw [hb]; exact d0) (Nat.le_refl _) (Nat.le_refl _)
  generalize hT1 : (T.setVm vm₁).pushCell { cls := cX, slots := kX.instanceTypes.map defaultValue, vm := .none } = T1 at X₁ st1
  have hcat : (Value.ref T.heap.size).category = 1 := rfl
  have hcellA : T1.heap[T.heap.size]? = some (freshCell cX kX) := by rw [← hT1]; exact State.heap_pushCell_size _ _
  have d3' : decode c.code (pc + 3) = .ok (.dup, 1) := by rw [hb]; exact d3
  obtain ⟨U, hsteps, hrun, hend, hW, hsame, ce, hce, hO⟩ := X₁.ctorThrow0 hexec htr (own := own) (cls := cls) (names := names) (ic := ic) hown' hcls hnames h (fun x hx => nomatch hx) hfX hkX hcellA (by rw [hhp, hT]; exact Nat.le_refl _)
    (g := { method := m, pc := pc + 4, locals := ls, stack := .ref T.heap.size :: .ref T.heap.size :: rest, locked := none }) rfl hsize rfl rfl (rest := rest) rfl
    (by rw [hb]; exact d4) (by rw [hb]; exact d7) hout hRframes (by simp only [List.map_cons, List.sum_cons, hcat]; omega) hlocks
  obtain ⟨f1, f2⟩ := vx_frame hsame
  rw [hhp] at f1 f2
  have hWs : s.WarmedH U.vm := State.WarmedH.trans hW0 hW
  have hcl : s.vm.findClass cls = some ce.cls := by
    have h9 := hO.cls
    rw [hvm] at h9
    exact h9
  have hall : s.sameButNew ({ U with vm := s.vm } : State) locs mc ms := by
    subst hA
    obtain ⟨e1, e2⟩ := hsame
    rw [State.setFrames_setFrames] at e1
    have h2 : (T.setVm s.vm).sameButNew ({ U with vm := s.vm } : State) [] (0 + 1) (0 + 6) := ⟨e1, e2⟩
    have h3 := X.same.trans h2
    rw [List.append_nil] at h3
    exact h3.mono hc hs
  refine ⟨U, ?_, .threw T.heap.size, hrun, hend, Or.inr ⟨T.heap.size, rfl, cls, ce, locs, hx U hWs.alike f1 (fun q hq => f2 q hq (fun z hz => nomatch hz)), hce, hO.vm, hcl, hWs, hall, hf⟩⟩
  refine st1 _ ?_
  show Steps p.tables e below (T1.setTop { method := m, pc := pc + 3, locals := ls, stack := .ref T.heap.size :: rest, locked := none }) _
  jvm_step X₁.here [X₁.here.top, hexec, d3', Value.category]
  exact hsteps
/-- 'throw new E("text")': new; dup; ldc; invokespecial; athrow -/
theorem vx_throwS {cc : ByteArray} {pc : Nat} (hexec : p.tables.exec = Jvm.exec) (hb : c.code = cc) (hl : l.stackTraces = false) {own cls text : String} {names : List String} {ik is ic mc ms sa : Nat} {A : Nat → Prop}
    (hown : s.vm.findClass own = some m.cls) (hcls : Bundle.fit cls = true) (hnames : ∀ n ∈ names, Bundle.fit n = true)
    (hk : (Cond.classLink own ik cls).before args s = true) (hini : (Cond.initialized cls).before args s = true) (hstr : vk_R own is text sa s) (hat : ∀ w ∈ vx_atS own ic cls names, w.before args s = true)
    (hgood : ∀ w ∈ Cond.classLink own ik cls :: Cond.initialized cls :: vx_atS own ic cls names, vx_ot w = true)
    (hU : vx_Zq Bundle.tN "UNASSIGNED_STACK" Bundle.steD A s s.heap) (hN : vx_Zq Bundle.tN "SUPPRESSED_SENTINEL" Bundle.listD A s s.heap) (hS : va_S A s.heap H locs) (hsize : ls.size = c.maxLocals)
    (d0 : decode cc pc = .ok (.new ik, 3)) (d3 : decode cc (pc + 3) = .ok (.dup, 1)) (d4 : decode cc (pc + 4) = .ok (.ldc is, 2)) (d6 : decode cc (pc + 6) = .ok (.invokespecial ic, 3)) (d9 : decode cc (pc + 9) = .ok (.athrow, 1))
    (hout : ∀ x ∈ c.exceptionTable.toList, covers x (pc + 9) = false)
    (hRframes : names.length + 3 < R.frames) (hRlocals : (rest.map fun v => v.category).sum + (13 * (names.length + 1) + 43) ≤ R.locals) (hRcells : cells + 1 ≤ R.cells) (hRslots : slots + 6 ≤ R.slots) (hlocks : meth.locks = false)
    (hx : ∀ t : State, s.vm.Alike t.vm → H.size ≤ t.heap.size → (∀ q : Nat, q < H.size → t.heap[q]? = H[q]?) → XC cls s t)
    (hf : ∀ z ∈ locs, free z.base) (hc : cells + 1 ≤ mc) (hs : slots + 6 ≤ ms) :
    W p l e R s m args below meth c H locs cells slots (vx_MQ below Qc XC args s mc ms free) (F0 m pc ls rest) := by
  intro T hT X
  have htr : e.platform.stackTraces = false := (show e.platform.stackTraces = l.stackTraces by rw [X.admits.platform]).trans hl
  have Y := vx_rebase X (R' := { frames := R.frames, locals := R.locals, cells := 1, slots := 6 }) (Nat.le_refl _) (Nat.le_refl _) hRcells hRslots
  obtain ⟨s', hA⟩ : ∃ z, z = (T.setVm s.vm).setFrames (.invoking m args :: below) := ⟨_, rfl⟩
  rw [← hA] at Y
  have hvm : s'.vm = s.vm := by rw [hA]; rfl
  have hhp : s'.heap = H := by rw [hA]; exact hT
  have hW0 : s.WarmedH s'.vm := by rw [hvm]; exact State.WarmedH.refl s
  have hat' : ∀ w ∈ vx_atS own ic cls names, w.before args s' = true := fun w hw => vx_ot_at hW0 hvm.symm (hgood w (List.mem_cons_of_mem _ (List.mem_cons_of_mem _ hw))) (hat w hw)
  have hk' : (Cond.classLink own ik cls).before args s' = true := vx_ot_at hW0 hvm.symm (hgood _ List.mem_cons_self) hk
  have hini' : (Cond.initialized cls).before args s' = true := vx_ot_at hW0 hvm.symm (hgood _ (List.mem_cons_of_mem _ List.mem_cons_self)) hini
  have hU' : vx_Zq Bundle.tN "UNASSIGNED_STACK" Bundle.steD A s' s'.heap := by rw [hhp]; exact vx_Zq.moved hW0.alike (hU.kept hS.2.1)
  have hN' : vx_Zq Bundle.tN "SUPPRESSED_SENTINEL" Bundle.listD A s' s'.heap := by rw [hhp]; exact vx_Zq.moved hW0.alike (hN.kept hS.2.1)
  have h : ∀ w ∈ Bundle.ownAtoms own ic cls names, w.before args s' = true := vx_own hat' (vx_isRefq hU'.1) (vx_isRefq hN'.1) hU'.2.word hN'.2.word
  have hown' : s'.vm.findClass own = some m.cls := by rw [hvm]; exact hown
  have hins : (Cond.instantiable cls 6).before args s' = true := h _ (by simp [Bundle.ownAtoms])
  obtain ⟨vm₁, cX, kX, hfX, hkX, -, -, X₁, st1⟩ := Y.newCold hexec (own := own) (C := cls) (index := ik) (n := 6) hown' hk' hins hini'
    (g := F0 m pc ls rest) rfl (by rw [hb]; exact d0) (Nat.le_refl _) (Nat.le_refl _)
  generalize hT1 : (T.setVm vm₁).pushCell { cls := cX, slots := kX.instanceTypes.map defaultValue, vm := .none } = T1 at X₁ st1
  have hcat : (Value.ref T.heap.size).category = 1 := rfl
  have hcellA : T1.heap[T.heap.size]? = some (freshCell cX kX) := by rw [← hT1]; exact State.heap_pushCell_size _ _
  have d3' : decode c.code (pc + 3) = .ok (.dup, 1) := by rw [hb]; exact d3
  have d4' : decode c.code (pc + 4) = .ok (.ldc is, 2) := by rw [hb]; exact d4
  have hstr' : vk_R own is text sa s' := vk_R.warm hW0 hstr
  obtain ⟨U, hsteps, hrun, hend, hW, hsame, ce, hce, hO⟩ := X₁.ctorThrowS hexec htr (own := own) (cls := cls) (names := names) (ic := ic) hown' hcls hnames h (fun x hx => nomatch hx) hfX hkX hcellA (by rw [hhp, hT]; exact Nat.le_refl _) (msg := .ref sa) rfl
    (g := { method := m, pc := pc + 6, locals := ls, stack := .ref sa :: .ref T.heap.size :: .ref T.heap.size :: rest, locked := none }) rfl hsize rfl rfl (rest := rest) rfl
    (by rw [hb]; exact d6) (by rw [hb]; exact d9) hout hRframes (by simp only [List.map_cons, List.sum_cons, hcat]; omega) hlocks
  obtain ⟨f1, f2⟩ := vx_frame hsame
  rw [hhp] at f1 f2
  have hWs : s.WarmedH U.vm := State.WarmedH.trans hW0 hW
  have hcl : s.vm.findClass cls = some ce.cls := by
    have h9 := hO.cls
    rw [hvm] at h9
    exact h9
  have hall : s.sameButNew ({ U with vm := s.vm } : State) locs mc ms := by
    subst hA
    obtain ⟨e1, e2⟩ := hsame
    rw [State.setFrames_setFrames] at e1
    have h2 : (T.setVm s.vm).sameButNew ({ U with vm := s.vm } : State) [] (0 + 1) (0 + 6) := ⟨e1, e2⟩
    have h3 := X.same.trans h2
    rw [List.append_nil] at h3
    exact h3.mono hc hs
  refine ⟨U, ?_, .threw T.heap.size, hrun, hend, Or.inr ⟨T.heap.size, rfl, cls, ce, locs, hx U hWs.alike f1 (fun q hq => f2 q hq (fun z hz => nomatch hz)), hce, hO.vm, hcl, hWs, hall, hf⟩⟩
  refine st1 _ ?_
  show Steps p.tables e below (T1.setTop { method := m, pc := pc + 3, locals := ls, stack := .ref T.heap.size :: rest, locked := none }) _
  jvm_step X₁.here [X₁.here.top, hexec, d3', Value.category]
  exact X₁.ldcString hexec (own := own) (text := text) (index := is) (a := sa) hown' hstr'.1 hstr'.2
    (g := { method := m, pc := pc + 4, locals := ls, stack := .ref T.heap.size :: .ref T.heap.size :: rest, locked := none }) rfl d4' _ hsteps
/-- 'throw new E("text")', the text by a wide index -/
theorem vx_throwSW {cc : ByteArray} {pc : Nat} (hexec : p.tables.exec = Jvm.exec) (hb : c.code = cc) (hl : l.stackTraces = false) {own cls text : String} {names : List String} {ik is ic mc ms sa : Nat} {A : Nat → Prop}
    (hown : s.vm.findClass own = some m.cls) (hcls : Bundle.fit cls = true) (hnames : ∀ n ∈ names, Bundle.fit n = true)
    (hk : (Cond.classLink own ik cls).before args s = true) (hini : (Cond.initialized cls).before args s = true) (hstr : vk_R own is text sa s) (hat : ∀ w ∈ vx_atS own ic cls names, w.before args s = true)
    (hgood : ∀ w ∈ Cond.classLink own ik cls :: Cond.initialized cls :: vx_atS own ic cls names, vx_ot w = true)
    (hU : vx_Zq Bundle.tN "UNASSIGNED_STACK" Bundle.steD A s s.heap) (hN : vx_Zq Bundle.tN "SUPPRESSED_SENTINEL" Bundle.listD A s s.heap) (hS : va_S A s.heap H locs) (hsize : ls.size = c.maxLocals)
    (d0 : decode cc pc = .ok (.new ik, 3)) (d3 : decode cc (pc + 3) = .ok (.dup, 1)) (d4 : decode cc (pc + 4) = .ok (.ldc_w is, 3)) (d7 : decode cc (pc + 7) = .ok (.invokespecial ic, 3)) (d10 : decode cc (pc + 10) = .ok (.athrow, 1))
    (hout : ∀ x ∈ c.exceptionTable.toList, covers x (pc + 10) = false)
    (hRframes : names.length + 3 < R.frames) (hRlocals : (rest.map fun v => v.category).sum + (13 * (names.length + 1) + 43) ≤ R.locals) (hRcells : cells + 1 ≤ R.cells) (hRslots : slots + 6 ≤ R.slots) (hlocks : meth.locks = false)
    (hx : ∀ t : State, s.vm.Alike t.vm → H.size ≤ t.heap.size → (∀ q : Nat, q < H.size → t.heap[q]? = H[q]?) → XC cls s t)
    (hf : ∀ z ∈ locs, free z.base) (hc : cells + 1 ≤ mc) (hs : slots + 6 ≤ ms) :
    W p l e R s m args below meth c H locs cells slots (vx_MQ below Qc XC args s mc ms free) (F0 m pc ls rest) := by
  intro T hT X
  have htr : e.platform.stackTraces = false := (show e.platform.stackTraces = l.stackTraces by rw [X.admits.platform]).trans hl
  have Y := vx_rebase X (R' := { frames := R.frames, locals := R.locals, cells := 1, slots := 6 }) (Nat.le_refl _) (Nat.le_refl _) hRcells hRslots
  obtain ⟨s', hA⟩ : ∃ z, z = (T.setVm s.vm).setFrames (.invoking m args :: below) := ⟨_, rfl⟩
  rw [← hA] at Y
  have hvm : s'.vm = s.vm := by rw [hA]; rfl
  have hhp : s'.heap = H := by rw [hA]; exact hT
  have hW0 : s.WarmedH s'.vm := by rw [hvm]; exact State.WarmedH.refl s
  have hat' : ∀ w ∈ vx_atS own ic cls names, w.before args s' = true := fun w hw => vx_ot_at hW0 hvm.symm (hgood w (List.mem_cons_of_mem _ (List.mem_cons_of_mem _ hw))) (hat w hw)
  have hk' : (Cond.classLink own ik cls).before args s' = true := vx_ot_at hW0 hvm.symm (hgood _ List.mem_cons_self) hk
  have hini' : (Cond.initialized cls).before args s' = true := vx_ot_at hW0 hvm.symm (hgood _ (List.mem_cons_of_mem _ List.mem_cons_self)) hini
  have hU' : vx_Zq Bundle.tN "UNASSIGNED_STACK" Bundle.steD A s' s'.heap := by rw [hhp]; exact vx_Zq.moved hW0.alike (hU.kept hS.2.1)
  have hN' : vx_Zq Bundle.tN "SUPPRESSED_SENTINEL" Bundle.listD A s' s'.heap := by rw [hhp]; exact vx_Zq.moved hW0.alike (hN.kept hS.2.1)
  have h : ∀ w ∈ Bundle.ownAtoms own ic cls names, w.before args s' = true := vx_own hat' (vx_isRefq hU'.1) (vx_isRefq hN'.1) hU'.2.word hN'.2.word
  have hown' : s'.vm.findClass own = some m.cls := by rw [hvm]; exact hown
  have hins : (Cond.instantiable cls 6).before args s' = true := h _ (by simp [Bundle.ownAtoms])
  obtain ⟨vm₁, cX, kX, hfX, hkX, -, -, X₁, st1⟩ := Y.newCold hexec (own := own) (C := cls) (index := ik) (n := 6) hown' hk' hins hini'
    (g := F0 m pc ls rest) rfl (by rw [hb]; exact d0) (Nat.le_refl _) (Nat.le_refl _)
  generalize hT1 : (T.setVm vm₁).pushCell { cls := cX, slots := kX.instanceTypes.map defaultValue, vm := .none } = T1 at X₁ st1
  have hcat : (Value.ref T.heap.size).category = 1 := rfl
  have hcellA : T1.heap[T.heap.size]? = some (freshCell cX kX) := by rw [← hT1]; exact State.heap_pushCell_size _ _
  have d3' : decode c.code (pc + 3) = .ok (.dup, 1) := by rw [hb]; exact d3
  have d4' : decode c.code (pc + 4) = .ok (.ldc_w is, 3) := by rw [hb]; exact d4
  have hstr' : vk_R own is text sa s' := vk_R.warm hW0 hstr
  obtain ⟨U, hsteps, hrun, hend, hW, hsame, ce, hce, hO⟩ := X₁.ctorThrowS hexec htr (own := own) (cls := cls) (names := names) (ic := ic) hown' hcls hnames h (fun x hx => nomatch hx) hfX hkX hcellA (by rw [hhp, hT]; exact Nat.le_refl _) (msg := .ref sa) rfl
    (g := { method := m, pc := pc + 7, locals := ls, stack := .ref sa :: .ref T.heap.size :: .ref T.heap.size :: rest, locked := none }) rfl hsize rfl rfl (rest := rest) rfl
    (by rw [hb]; exact d7) (by rw [hb]; exact d10) hout hRframes (by simp only [List.map_cons, List.sum_cons, hcat]; omega) hlocks
  obtain ⟨f1, f2⟩ := vx_frame hsame
  rw [hhp] at f1 f2
  have hWs : s.WarmedH U.vm := State.WarmedH.trans hW0 hW
  have hcl : s.vm.findClass cls = some ce.cls := by
    have h9 := hO.cls
    rw [hvm] at h9
    exact h9
  have hall : s.sameButNew ({ U with vm := s.vm } : State) locs mc ms := by
    subst hA
    obtain ⟨e1, e2⟩ := hsame
    rw [State.setFrames_setFrames] at e1
    have h2 : (T.setVm s.vm).sameButNew ({ U with vm := s.vm } : State) [] (0 + 1) (0 + 6) := ⟨e1, e2⟩
    have h3 := X.same.trans h2
    rw [List.append_nil] at h3
    exact h3.mono hc hs
  refine ⟨U, ?_, .threw T.heap.size, hrun, hend, Or.inr ⟨T.heap.size, rfl, cls, ce, locs, hx U hWs.alike f1 (fun q hq => f2 q hq (fun z hz => nomatch hz)), hce, hO.vm, hcl, hWs, hall, hf⟩⟩
  refine st1 _ ?_
  show Steps p.tables e below (T1.setTop { method := m, pc := pc + 3, locals := ls, stack := .ref T.heap.size :: rest, locked := none }) _
  jvm_step X₁.here [X₁.here.top, hexec, d3', Value.category]
  exact X₁.ldcStringW hexec (own := own) (text := text) (index := is) (a := sa) hown' hstr'.1 hstr'.2
    (g := { method := m, pc := pc + 4, locals := ls, stack := .ref T.heap.size :: .ref T.heap.size :: rest, locked := none }) rfl d4' _ hsteps
end Ends
section Bodies
variable {l : Launch}
theorem vx_ofW {y : MethodName} {ws ws' : List Cond} {rm : Room} {Pc : Array Value → State → Prop} {Qc : Array Value → State → Outcome → State → Prop} {XC : String → State → State → Prop} {mc ms : Nat} {free : Addr → Prop} {cc : ByteArray} {maxL : Nat} {ret : Option FieldType}
    (hy : plainName y.cls = true) (hw : ws = Cond.code y cc maxL ret :: ws')
    (body : ∀ p e s m args below meth c s₁, BodyLoose p l y (headSpec ws rm) cc maxL ret e s m args below meth c s₁ → c.maxLocals = maxL → (∀ x ∈ c.exceptionTable.toList, False) → Pc args s →
      W p l e (headSpec ws rm).room s m args below meth c s.heap [] 0 0 (vx_MQ below Qc XC args s mc ms free) (entryFrame m args maxL)) : vx_Met l y ws rm Pc Qc XC mc ms free := by
  refine MetFree.of_bodyS (code := cc) (maxLocals := maxL) (ret := ret) hy ?_ ?_
  · intro args s m h hn
    obtain ⟨meth, c, h1, h2, h3, h4, h5, h6, -, -⟩ := Cond.code_spec hn (atoms_spec (ws := ws) h _ (by rw [hw]; exact List.mem_cons_self))
    exact ⟨meth, c, h1, h2, h3, h4, h5, h6⟩
  · intro p e s m args below meth c s₁ B hml hP _
    have hh0 : s₁.heap = s.heap := by rw [B.state]; rfl
    have ht : ∀ x ∈ c.exceptionTable.toList, False := by
      obtain ⟨meth9, c9, h1, h2, -, -, -, -, h7, -⟩ := Cond.code_spec B.named (atoms_spec (ws := ws) B.pre _ (by rw [hw]; exact List.mem_cons_self))
      cases Option.some.inj (h1.symm.trans B.method)
      cases Option.some.inj (h2.symm.trans (Stand.of_body B).code)
      intro x hx
      rw [Array.isEmpty_iff.mp h7] at hx
      cases hx
    obtain ⟨t, a1, o, b1, b2, b3⟩ := body p e s m args below meth c s₁ B hml ht hP s₁ hh0 (Stand.of_body B)
    exact ⟨t, o, a1, b1, b2, b3⟩
/-- the table of a body with handlers -/
theorem vx_table {p : Program} {x y : MethodName} {S : Spec} {cc bytes : ByteArray} {maxL maxL' : Nat} {ret ret' : Option FieldType} {e : Env} {s s₁ : State} {m : MethodId} {args : Array Value} {below : List Frame} {meth : Method} {c : Code} {hh : List (Nat × Nat × Nat × Nat)}
    (B : BodyLoose p l y S cc maxL ret e s m args below meth c s₁) (h : (Cond.codeWith y bytes maxL' ret' hh).before args s = true) : c.exceptionTable.toList = tableOf hh := by
  obtain ⟨m9, meth9, c9, hn9, h1, h2, -, -, h6, -⟩ := Cond.codeWith_spec h
  cases Option.some.inj (hn9.symm.trans B.named)
  cases Option.some.inj (h1.symm.trans B.method)
  cases Option.some.inj (h2.symm.trans (Stand.of_body B).code)
  rw [← h6, table_eq]
end Bodies
end VXA
/-! ===== END ===== -/
/-! ===== BEGIN a static call of a method with an exception table ===== -/
section VXS
variable {p : Program} {l : Launch} {e : Env} {R : Room} {s : State} {m : MethodId} {args : Array Value} {below : List Frame} {meth : Method} {c : Code} {T : State} {H : Heap} {locs : List Loc} {cells slots : Nat}
abbrev vx_CSW (R : Room) (s : State) (args : Array Value) (own : String) (index : Nat) (y : MethodName) (bytes : ByteArray) (maxL : Nat) (ret : Option FieldType) (hh : List (Nat × Nat × Nat × Nat)) (ws : List Cond) (rm : Room) (mc ms n : Nat) : Prop :=
  (rm.cells = mc ∧ rm.slots = ms ∧ rm.frames + 1 ≤ R.frames ∧ 8 + (maxL + 11) + rm.locals ≤ R.locals ∧ (∀ w ∈ ws, ∀ (a' : Array Value) (U : State), s.WarmedH U.vm → w.before a' U = true) ∧ Cond.codeWith y bytes maxL ret hh ∈ ws) ∧
  (Cond.codeWith y bytes maxL ret hh).before args s = true ∧ (Cond.initialized y.cls).before args s = true ∧ (y.cls ≠ "java/lang/invoke/MethodHandle" ∧ y.cls ≠ "java/lang/invoke/VarHandle") ∧
  (∀ sig, parseMethodDescriptor y.desc = some sig → n = sig.parameters.length) ∧ (Cond.methodLink own index y).before args s = true ∧ (Cond.static y).before args s = true
theorem vx_cwSW {own : String} {index maxL mc ms : Nat} {y : MethodName} {bytes : ByteArray} {ret : Option FieldType} {hh : List (Nat × Nat × Nat × Nat)} {Ts ws ws' : List Cond} {rm : Room} (n : Nat) (ht : ∀ w ∈ Ts, w.before args s = true) (hT : GoodIn Ts (va_wsS own index y ws)) (hw : ws = Cond.codeWith y bytes maxL ret hh :: ws') (hrc : rm.cells = mc) (hrs : rm.slots = ms)
    (hd : y.cls ≠ "java/lang/invoke/MethodHandle" ∧ y.cls ≠ "java/lang/invoke/VarHandle" ∧ (parseMethodDescriptor y.desc).map (fun d => d.parameters.length) = some n) (hR : rm.frames + 1 ≤ R.frames ∧ 8 + (maxL + 11) + rm.locals ≤ R.locals) :
    vx_CSW R s args own index y bytes maxL ret hh ws rm mc ms n := by
  have ok : ∀ w ∈ va_wsS own index y ws, w.before args s = true := fun w h => ht w (hT w h).1
  have hG : GoodIn Ts ws := fun w h => hT w (by unfold va_wsS; exact List.mem_append_right _ h)
  have hc : Cond.codeWith y bytes maxL ret hh ∈ ws := by rw [hw]; exact List.mem_cons_self
  refine ⟨⟨hrc, hrs, hR.1, hR.2, pay_in ht hG, hc⟩, ht _ (hG _ hc).1, ok _ (by simp [va_wsS]), ⟨hd.1, hd.2.1⟩, fun sig h => ?_, ok _ (by simp [va_wsS]), ok _ (by simp [va_wsS])⟩
  have h2 := hd.2.2
  rw [h] at h2
  exact (Option.some.inj h2).symm
theorem vx_callSW (X : Stand p l e R s m args below meth c T locs cells slots) (hexec : p.tables.exec = Jvm.exec) {own : String} {index : Nat} {y : MethodName} {bytes : ByteArray} {maxL : Nat} {ret : Option FieldType} {hh : List (Nat × Nat × Nat × Nat)}
    (hown : s.vm.findClass own = some m.cls) (hlink : (Cond.methodLink own index y).before args s = true) (hstat : (Cond.static y).before args s = true) (hinit : (Cond.initialized y.cls).before args s = true)
    (hcode : (Cond.codeWith y bytes maxL ret hh).before args s = true) (hy : y.cls ≠ "java/lang/invoke/MethodHandle" ∧ y.cls ≠ "java/lang/invoke/VarHandle")
    {W9 : Nat} {Pre : Pt → Array Value → Prop} {Post : Pt → Array Value → Option Value → Pt → Prop} (hK : Back l R p e below s args y 3 W9 Pre Post)
    {g : JFrame} (hg : g.method = m) (hsize : g.locals.size = c.maxLocals) {argsL rest : List Value} (hlen : ∀ sig, parseMethodDescriptor y.desc = some sig → argsL.length = sig.parameters.length)
    (hstack : g.stack = argsL.reverse ++ rest) (hW : 2 * g.monitorRoom + (rest.map fun v => v.category).sum ≤ W9) (hdg : decode c.code g.pc = .ok (.invokestatic index, 3))
    (hpre : ∀ vm₁, s.WarmedH vm₁ → Pre ⟨T.setVm vm₁, locs, cells, slots⟩ argsL.toArray) :
    ∃ (v : Option Value) (vm₁ : Vm) (B : Pt), s.WarmedH vm₁ ∧ Stand p l e R s m args below meth c B.U B.locs B.cells B.slots ∧ Post ⟨T.setVm vm₁, locs, cells, slots⟩ argsL.toArray v B ∧
      ∀ target, Steps p.tables e below (B.U.setTop { g with pc := g.pc + 3, stack := v.toList ++ rest }) target → Steps p.tables e below (T.setTop g) target := by
  obtain ⟨mk, methM, cM, hnamed, hmethM, -, -, -, -, -, -, hsigM⟩ := Cond.codeWith_spec hcode
  have hstatic : methM.isStatic = true := Cond.static_spec hnamed hmethM hstat
  obtain ⟨kP, hkP, -⟩ := className_of_methodNamed hnamed
  have hinitP : kP.init = .initialized := Cond.initialized_spec (findClass_of_methodNamed hnamed) hkP hinit
  obtain ⟨vm₁, X₁, hstep₁⟩ := X.invokestatic hexec hown hlink hnamed hmethM hstatic hkP hinitP hy (g := g) hg (argsL := argsL) (rest := rest) (hlen _ hsigM) hstack hdg
  obtain ⟨v, B, X', hpost, hsteps⟩ := hK m meth c ⟨T.setVm vm₁, locs, cells, slots⟩ { g with stack := rest } (.invokestatic index) mk argsL.toArray X₁ hg hsize hdg hW (X₁.named hnamed) (hpre vm₁ X₁.warmed)
  exact ⟨v, vm₁, B, X₁.warmed, X', hpost, fun target h => hstep₁ _ fun acts => by rw [doInvoke_state]; exact hsteps.trans h⟩
theorem vx_runSW {y : MethodName} {bytes cc : ByteArray} {maxL nL mc ms n index : Nat} {ret : Option FieldType} {hh : List (Nat × Nat × Nat × Nat)} {ws : List Cond} {rm : Room} {Pc : Array Value → State → Prop} {Qc : Array Value → State → Outcome → State → Prop} {free : Addr → Prop} {Ts : List Cond} {own : String} {As rest : List Value} {g : JFrame}
    (S : CallFix p m c cc nL s args Ts own) (hM : Met l y ws rm Pc Qc mc ms free) (cw : vx_CSW R s args own index y bytes maxL ret hh ws rm mc ms n) (hp : PreS s H Pc As)
    (hg : g.method = m) (hn : As.length = n) (hsize : g.locals.size = nL) (hstack : g.stack = As.reverse ++ rest) (hW : 2 * g.monitorRoom + (rest.map fun v => v.category).sum ≤ 8) (hdg : decode cc g.pc = .ok (.invokestatic index, 3)) (hf : cells + mc ≤ R.cells ∧ slots + ms ≤ R.slots) :
    va_Run p l e R s m args below meth c H locs cells slots mc ms g rest (Qc As.toArray) (free) := by
  obtain ⟨⟨hrc, hrs, hfr, hlo, hws, hcw⟩, hcode, hini, hy, hlen, hl, hstt⟩ := cw
  have hK : Back l R p e below s args y 3 8 (PreOf R mc ms Pc) (PostOf Qc mc ms free) := va_backW (hh := hh) (bytes := bytes) (maxL := maxL) (ret := ret) hM hp.1 hrc hrs hfr hlo hws hcw (fun a' U hW => word_at hW (Or.inl (by first | rfl | simp [Cond.onTables, Cond.keeps, Cond.steady])) hini)
  obtain ⟨hx, hb, hml, ho, -⟩ := S
  intro T hT X
  obtain ⟨v, vm₁, ⟨U', l2, c2, s2⟩, hW₁, X', ⟨g', mk, t, L, e1, e2, hq, h1, hL, h2, h3⟩, st⟩ := vx_callSW X hx (hh := hh) (bytes := bytes) (maxL := maxL) (ret := ret) ho hl hstt hini hcode hy hK hg (hsize.trans hml.symm) (argsL := As) (rest := rest) (fun sig h => hn.trans (hlen sig h)) hstack hW (by rw [hb]; exact hdg)
    (fun vm₁ hW₁ => ⟨hf.1, hf.2, hp.2 (T.setVm vm₁) hT hW₁⟩)
  dsimp only [Pt.U, Pt.locs, Pt.cells, Pt.slots] at X' e1 e2 h1 h2 h3 st
  subst h1; subst h2; subst h3
  exact ⟨v, (T.setVm vm₁).calling g' mk As.toArray, t, U', L, hT, X', hL, e1, e2, hq, st⟩
/-- not caught here, past rows that name other classes: it goes on to the caller -/
theorem vx_outP {p : Program} {l : Launch} {e : Env} {R : Room} {s : State} {m : MethodId} {args : Array Value} {below : List Frame} {meth : Method} {c : Code} {H : Heap} {locs : List Loc} {cells slots : Nat} {free : Addr → Prop} {ls : Array Slot} {rest : List Value} {Qc : Array Value → State → Outcome → State → Prop} {XC : String → State → State → Prop}
    {pc : Nat} {own E : String} {ce : Cell} {q : Addr} {mc ms : Nat} (hown : s.vm.findClass own = some m.cls) (hlocks : meth.locks = false)
    (hpass : ∀ z ∈ c.exceptionTable.toList, covers z pc = false ∨ (z.catchType ≠ 0 ∧ ∃ nm : String, (Cond.classLink own z.catchType nm).before args s = true ∧ va_Nc E nm s)) (hcell : H[q]? = some ce) (hv : ce.vm = .none) (hcl : s.vm.findClass E = some ce.cls)
    (hx : ∀ t : State, t.heap = H → s.vm.Alike t.vm → XC E s t) (hf : ∀ z ∈ locs, free z.base) (hc : cells ≤ mc) (hs : slots ≤ ms) :
    vx_W p l e R s m args below meth c H locs cells slots (vx_MQ below Qc XC args s mc ms free) (F0 m pc ls rest) q := by
  intro T hT X
  have hpl : e.platform.magicAccessors = ({} : Platform).magicAccessors := by rw [X.admits.platform]
  obtain ⟨vm', hW', X', st⟩ := X.outThrough hlocks q (g := F0 m pc ls rest) rfl rfl rfl (cell := ce) (by rw [hT]; exact hcell) (by rw [hv]; rfl)
    (by obtain ⟨k9, h9, -⟩ := Vm.findClass_spec hcl; exact ⟨k9, h9⟩) (fun z hz => by
      rcases hpass z hz with h | ⟨hz0, nm, hl1, hn1⟩
      · exact Or.inl h
      · obtain ⟨c6, hc6, hcl6⟩ := Cond.classLink_spec hown hl1 e.platform hpl
        obtain ⟨a8, b8, h1, h2, h3⟩ := hn1
        cases Option.some.inj (h1.symm.trans hcl)
        cases Option.some.inj (h2.symm.trans hc6)
        exact Or.inr ⟨hz0, _, hcl6, h3⟩)
  obtain ⟨g₀, hfr⟩ := X'.frames_eq
  have hcell9 : ((T.setVm vm').setFrames (.throwing q :: below)).heap[q]? = some ce := by
    show T.heap[q]? = some ce
    rw [hT]; exact hcell
  have hend : Ended ((T.setVm vm').setFrames (.throwing q :: below)) below (.threw q) := State.frames_setFrames _ (State.cur_lt_of_frames hfr)
  refine ⟨(T.setVm vm').setFrames (.throwing q :: below), ?_, .threw q, X'.here.running, hend, Or.inr ⟨q, rfl, E, ce, locs, hx _ hT (X'.ends _).1.alike, hcell9, hv, hcl, (X'.ends _).1, (X'.ends _).2.mono hc hs, hf⟩⟩
  rw [X.pushThrowing_eq]
  exact st
/-- a thing of a world lies in the heap -/
theorem vx_lt {D : va_G} {cl : List vw_C} {ws : va_W} {H1 : Heap} (h : va_P D cl ws H1) {k : Nat} {q : Nat × va_E} (hk : ws[k]? = some q) : q.1 < H1.size := (h k q hk).lt
end VXS
/-! ===== END ===== -/
/-! ===== BEGIN methods with a table of their own: called by a name, returning or throwing ===== -/
section VXH
/-! vx_backW, vx_callVX, vx_callSX, vx_callVW, vx_runVW, vx_runVX, vx_runSX, vx_ofWH follow the same proofs as their sisters above (Free/Laws.lean, Shelf42/LK1.lean); vx_outP calls Shelf42/NT130.lean (outThrough). -/
section
variable {l : Launch} {R : Room} {p : Program} {e : Env} {below : List Frame} {s : State} {sargs : Array Value} {y : MethodName} {len W9 : Nat}
theorem vx_backW {ws : List Cond} {rm : Room} {Pc : Array Value → State → Prop} {Qc : Array Value → State → Outcome → State → Prop} {XC : String → State → State → Prop} {mc ms : Nat} {free : Addr → Prop} {bytes : ByteArray} {maxL : Nat} {ret : Option FieldType} {hh : List (Nat × Nat × Nat × Nat)}
    (hM : vx_Met l y ws rm Pc Qc XC mc ms free) (hblind : FrameBlind Pc) (hrc : rm.cells = mc) (hrs : rm.slots = ms)
    (hframes : rm.frames + 1 ≤ R.frames) (hlocals : W9 + (maxL + 11) + rm.locals ≤ R.locals)
    (hws : ∀ w ∈ ws, ∀ a' U, s.WarmedH U.vm → w.before a' U = true) (hcode : Cond.codeWith y bytes maxL ret hh ∈ ws) (hinit : ∀ a' U, s.WarmedH U.vm → (Cond.initialized y.cls).before a' U = true) :
    vx_Back l R p e below s sargs y len W9 (PreOf R mc ms Pc) (PostOf Qc mc ms free) (vx_Post XC mc ms free) := by
  intro m meth c A g ig mk a X hg hsize hdg hW hn hp
  have h1 : (headSpec ws rm).pre.before a A.U = true := atoms_intro fun w hw => hws w hw _ _ X.warmed
  have h2 : (Cond.codeWith y bytes maxL ret hh).before a A.U = true := hws _ hcode _ _ X.warmed
  have h3 : (Cond.initialized y.cls).before a A.U = true := hinit _ _ X.warmed
  have h4 : A.cells + (headSpec ws rm).room.cells ≤ R.cells := by rw [show (headSpec ws rm).room.cells = mc from hrc]; exact hp.1
  have h5 : A.slots + (headSpec ws rm).room.slots ≤ R.slots := by rw [show (headSpec ws rm).room.slots = ms from hrs]; exact hp.2.1
  have hPc : Pc a (A.U.calling g mk a) := hblind _ _ _ _ hp.2.2
  obtain ⟨U, Ls, c0, s0⟩ := A
  dsimp only [Pt.U, Pt.locs, Pt.cells, Pt.slots] at h1 h2 h3 h4 h5 X hn hPc ⊢
  obtain ⟨m9, methY, cY, hn9, hmY, hcY, -, hlY, -⟩ := Cond.codeWith_spec h2
  cases Option.some.inj (hn9.symm.trans hn)
  obtain ⟨kY, hkY, -⟩ := className_of_methodNamed hn
  have hinitY : kY.init = .initialized := Cond.initialized_spec (findClass_of_methodNamed hn) hkY h3
  have h : At U g.method c below := by rw [hg]; exact X.here
  have hlocals9 : W9 + (maxL + 11) + (headSpec ws rm).room.locals ≤ R.locals := hlocals
  have happ : (headSpec ws rm).appliesLoose y e.platform (U.calling g mk a) = true :=
    Spec.appliesLoose_calling (g := g) h hdg hn hkY hinitY
      (X.room_calling (g := g) (R' := (headSpec ws rm).room) hsize hmY hcY hframes (by rw [hlY]; omega) h4 h5) h1
  obtain ⟨mid, hmid⟩ := h.above
  have hfr : (U.setTop g).frames = (.java g :: mid) ++ below := by rw [State.frames_setTop' g h.top, hmid]; rfl
  obtain ⟨o, s₂, hsteps, -, hend, hq⟩ := Steps.callFree hM p X.admits X.cas X.clock (acts := []) hfr happ hPc trivial
  have hq' : vx_Q Qc XC mc ms free a (U.calling g mk a) o s₂ := hq
  rw [State.frames_setTop' g h.top] at hend
  obtain ⟨g₀, hg0⟩ := Option.isSome_iff_exists.mp h.top
  obtain ⟨r, hr⟩ := State.topJava?_eq_some.mp hg0
  have hr' : (({ U with heap := s₂.heap, slotsUsed := s₂.slotsUsed } : State).setVm s₂.vm).frames = .java g₀ :: r := hr
  rcases hq' with ⟨hqc, L, hfe, hL⟩ | ⟨q, rfl, E, ce, L, hx, hce, hcv, hcl, hW₂, hsm, hL⟩
  · obtain ⟨⟨v, rfl⟩, hW₂, e2, q2, q3, q4, q5, q6⟩ := id hfe
    have e3 : s₂ = ({ (U.calling g mk a).setFrames s₂.frames with heap := s₂.heap, slotsUsed := s₂.slotsUsed } : State).setVm s₂.vm := by
      have : s₂ = ({ s₂ with vm := (U.calling g mk a).vm } : State).setVm s₂.vm := rfl
      rw [e2] at this
      exact this
    obtain ⟨c₂, i₂, len₂, hc₂, hd₂, hf₂⟩ := hend
    have hW' : U.WarmedH s₂.vm := hW₂
    have hcc : c₂ = c := by
      have h1 : s₂.code? g.method = U.code? g.method := by
        rw [State.code?_eq, State.code?_eq, hW'.alike.method?]
      exact Option.some.inj (hc₂.symm.trans (h1.trans h.code))
    subst hcc
    have hlen : len₂ = len := by rw [hdg] at hd₂; cases hd₂; rfl
    subst hlen
    have hs₂ : s₂ = (({ U with heap := s₂.heap, slotsUsed := s₂.slotsUsed } : State).setVm s₂.vm).setTop { g with pc := g.pc + len₂, stack := v.toList ++ g.stack } := by
      refine e3.trans ?_
      rw [hf₂, State.calling_eq h.top, State.setFrames_setFrames, State.setTop_of_frames _ hr', hr]
      rfl
    have hsame : U.sameButNew ({ U with heap := s₂.heap, slotsUsed := s₂.slotsUsed } : State) L mc ms := by
      refine ⟨?_, q2, q3, q4, q5, q6⟩
      obtain ⟨t, ht, -⟩ := State.frames_cons hr
      show ({ U with heap := s₂.heap, slotsUsed := s₂.slotsUsed } : State) = { U.setFrames U.frames with heap := s₂.heap, slotsUsed := s₂.slotsUsed }
      rw [State.setFrames_self ht]
    subst hg
    refine Or.inl ⟨v, ⟨(({ U with heap := s₂.heap, slotsUsed := s₂.slotsUsed } : State).setVm s₂.vm), Ls ++ L, c0 + mc, s0 + ms⟩,
      ⟨X.admits, X.cas, X.clock, X.frames, X.room, X.hears, X.method, X.code, (X.here.setHeapUsed s₂.heap s₂.slotsUsed).setVm hW'.alike, X.tail, State.WarmedH.trans X.warmed hW', X.limits, X.bytes, X.same.trans (hsame.setVm s.vm)⟩,
      ⟨g, mk, s₂, L, rfl, rfl, hqc, rfl, hL, rfl, rfl⟩, ?_⟩
    show Steps p.tables e below _ ((({ U with heap := s₂.heap, slotsUsed := s₂.slotsUsed } : State).setVm s₂.vm).setTop { g with pc := g.pc + len₂, stack := v.toList ++ g.stack })
    rw [← hs₂]
    exact hsteps
  · obtain ⟨e2, q2, q3, q4, q5, q6⟩ := id hsm
    have e3 : s₂ = ({ (U.calling g mk a).setFrames s₂.frames with heap := s₂.heap, slotsUsed := s₂.slotsUsed } : State).setVm s₂.vm := by
      have : s₂ = ({ s₂ with vm := (U.calling g mk a).vm } : State).setVm s₂.vm := rfl
      rw [e2] at this
      exact this
    have hf₂ : s₂.frames = .throwing q :: .java g :: U.frames.tail := hend
    have hW' : U.WarmedH s₂.vm := hW₂
    have hs₂ : s₂ = ((({ U with heap := s₂.heap, slotsUsed := s₂.slotsUsed } : State).setVm s₂.vm).setTop g).pushFrame (.throwing q) := by
      refine e3.trans ?_
      rw [hf₂, State.calling_eq h.top, State.setFrames_setFrames, State.pushFrame, State.frames_setTop _ hr', State.setTop_of_frames _ hr', State.setFrames_setFrames, hr]
      rfl
    have hsame : U.sameButNew ({ U with heap := s₂.heap, slotsUsed := s₂.slotsUsed } : State) L mc ms := by
      refine ⟨?_, q2, q3, q4, q5, q6⟩
      obtain ⟨t, ht, -⟩ := State.frames_cons hr
      show ({ U with heap := s₂.heap, slotsUsed := s₂.slotsUsed } : State) = { U.setFrames U.frames with heap := s₂.heap, slotsUsed := s₂.slotsUsed }
      rw [State.setFrames_self ht]
    subst hg
    refine Or.inr ⟨q, ⟨(({ U with heap := s₂.heap, slotsUsed := s₂.slotsUsed } : State).setVm s₂.vm), Ls ++ L, c0 + mc, s0 + ms⟩,
      ⟨X.admits, X.cas, X.clock, X.frames, X.room, X.hears, X.method, X.code, (X.here.setHeapUsed s₂.heap s₂.slotsUsed).setVm hW'.alike, X.tail, State.WarmedH.trans X.warmed hW', X.limits, X.bytes, X.same.trans (hsame.setVm s.vm)⟩,
      ⟨g, mk, s₂, L, E, ce, rfl, rfl, hx, hce, hcv, hcl, rfl, hL, rfl, rfl⟩, ?_⟩
    show Steps p.tables e below _ (((({ U with heap := s₂.heap, slotsUsed := s₂.slotsUsed } : State).setVm s₂.vm).setTop g).pushFrame (.throwing q))
    rw [← hs₂]
    exact hsteps
end
variable {p : Program} {l : Launch} {e : Env} {R : Room} {s : State} {m : MethodId} {args : Array Value} {below : List Frame} {meth : Method} {c : Code} {T : State} {H : Heap} {locs : List Loc} {cells slots : Nat}
theorem vx_callVX (X : Stand p l e R s m args below meth c T locs cells slots) (hexec : p.tables.exec = Jvm.exec) {own C : String} {index : Nat} {y : MethodName} {bytes : ByteArray} {maxL : Nat} {ret : Option FieldType} {hh : List (Nat × Nat × Nat × Nat)}
    (hown : s.vm.findClass own = some m.cls) (hlink : (Cond.methodLink own index y).before args s = true) (hinst : (Cond.instanceMethod y).before args s = true) (hsel : (Cond.selects C y y).before args s = true)
    (hcode : (Cond.codeWith y bytes maxL ret hh).before args s = true) (hy : y.cls ≠ "java/lang/invoke/MethodHandle" ∧ y.cls ≠ "java/lang/invoke/VarHandle")
    {W9 : Nat} {Pre : Pt → Array Value → Prop} {Post : Pt → Array Value → Option Value → Pt → Prop} {PostX : Pt → Array Value → Addr → Pt → Prop} (hK : vx_Back l R p e below s args y 3 W9 Pre Post PostX)
    {b : Addr} {cellB : Cell} (hcell : T.heap[b]? = some cellB) (hobj : cellB.vm.isStatics = false) (hcls : s.vm.findClass C = some cellB.cls)
    {g : JFrame} (hg : g.method = m) (hsize : g.locals.size = c.maxLocals) {argsL rest : List Value} (hlen : ∀ sig, parseMethodDescriptor y.desc = some sig → argsL.length = sig.parameters.length)
    (hstack : g.stack = argsL.reverse ++ .ref b :: rest) (hW : 2 * g.monitorRoom + (rest.map fun v => v.category).sum ≤ W9) (hdg : decode c.code g.pc = .ok (.invokevirtual index, 3))
    (hpre : ∀ vm₁, s.WarmedH vm₁ → Pre ⟨T.setVm vm₁, locs, cells, slots⟩ (Value.ref b :: argsL).toArray) :
    (∃ (v : Option Value) (vm₁ : Vm) (B : Pt), s.WarmedH vm₁ ∧ Stand p l e R s m args below meth c B.U B.locs B.cells B.slots ∧ Post ⟨T.setVm vm₁, locs, cells, slots⟩ (Value.ref b :: argsL).toArray v B ∧
      ∀ target, Steps p.tables e below (B.U.setTop { g with pc := g.pc + 3, stack := v.toList ++ rest }) target → Steps p.tables e below (T.setTop g) target) ∨
    (∃ (q : Addr) (vm₁ : Vm) (B : Pt), s.WarmedH vm₁ ∧ Stand p l e R s m args below meth c B.U B.locs B.cells B.slots ∧ PostX ⟨T.setVm vm₁, locs, cells, slots⟩ (Value.ref b :: argsL).toArray q B ∧
      Steps p.tables e below (T.setTop g) ((B.U.setTop { g with stack := rest }).pushFrame (.throwing q))) := by
  obtain ⟨mk, methM, hnamed, hmethM, hstM, habM⟩ := Cond.instanceMethod_spec hinst
  obtain ⟨m8, methM', cM, hn8, hmethM', -, -, -, -, -, -, hsigM⟩ := Cond.codeWith_spec hcode
  cases Option.some.inj (hn8.symm.trans hnamed)
  cases hmethM.symm.trans hmethM'
  obtain ⟨c2, r2, m2, q1, q2, q3, q4, kP, hkP, hkPi⟩ := Cond.selects_spec hsel
  cases hcls.symm.trans q1
  cases (State.methodFound?_of_named hnamed hy).symm.trans q2
  cases hnamed.symm.trans q3
  have hselP : selectMethod e.platform s.vm cellB.cls mk = .method mk := by rw [Launch.admits_selectMethod X.admits]; exact q4
  obtain ⟨vm₁, X₁, hstep₁⟩ := X.invokevirtual hexec hown hlink hnamed hmethM hstM hkP hkPi hy (a := b) (cell := cellB) hcell
    (fun z h => by rw [h] at hobj; cases hobj) hselP hmethM habM hkP hkPi (g := g) hg (argsL := argsL) (rest := rest) (hlen _ hsigM) hstack hdg
  rcases hK m meth c ⟨T.setVm vm₁, locs, cells, slots⟩ { g with stack := rest } (.invokevirtual index) mk (Value.ref b :: argsL).toArray X₁ hg hsize hdg hW (X₁.named hnamed) (hpre vm₁ X₁.warmed) with ⟨v, B, X', hpost, hsteps⟩ | ⟨q, B, X', hpost, hsteps⟩
  · exact Or.inl ⟨v, vm₁, B, X₁.warmed, X', hpost, fun target h => hstep₁ _ fun acts => by rw [doInvoke_state]; exact hsteps.trans h⟩
  · exact Or.inr ⟨q, vm₁, B, X₁.warmed, X', hpost, hstep₁ _ fun acts => by rw [doInvoke_state]; exact hsteps⟩
theorem vx_callSX (X : Stand p l e R s m args below meth c T locs cells slots) (hexec : p.tables.exec = Jvm.exec) {own : String} {index : Nat} {y : MethodName} {bytes : ByteArray} {maxL : Nat} {ret : Option FieldType} {hh : List (Nat × Nat × Nat × Nat)}
    (hown : s.vm.findClass own = some m.cls) (hlink : (Cond.methodLink own index y).before args s = true) (hstat : (Cond.static y).before args s = true) (hinit : (Cond.initialized y.cls).before args s = true)
    (hcode : (Cond.codeWith y bytes maxL ret hh).before args s = true) (hy : y.cls ≠ "java/lang/invoke/MethodHandle" ∧ y.cls ≠ "java/lang/invoke/VarHandle")
    {W9 : Nat} {Pre : Pt → Array Value → Prop} {Post : Pt → Array Value → Option Value → Pt → Prop} {PostX : Pt → Array Value → Addr → Pt → Prop} (hK : vx_Back l R p e below s args y 3 W9 Pre Post PostX)
    {g : JFrame} (hg : g.method = m) (hsize : g.locals.size = c.maxLocals) {argsL rest : List Value} (hlen : ∀ sig, parseMethodDescriptor y.desc = some sig → argsL.length = sig.parameters.length)
    (hstack : g.stack = argsL.reverse ++ rest) (hW : 2 * g.monitorRoom + (rest.map fun v => v.category).sum ≤ W9) (hdg : decode c.code g.pc = .ok (.invokestatic index, 3))
    (hpre : ∀ vm₁, s.WarmedH vm₁ → Pre ⟨T.setVm vm₁, locs, cells, slots⟩ argsL.toArray) :
    (∃ (v : Option Value) (vm₁ : Vm) (B : Pt), s.WarmedH vm₁ ∧ Stand p l e R s m args below meth c B.U B.locs B.cells B.slots ∧ Post ⟨T.setVm vm₁, locs, cells, slots⟩ argsL.toArray v B ∧
      ∀ target, Steps p.tables e below (B.U.setTop { g with pc := g.pc + 3, stack := v.toList ++ rest }) target → Steps p.tables e below (T.setTop g) target) ∨
    (∃ (q : Addr) (vm₁ : Vm) (B : Pt), s.WarmedH vm₁ ∧ Stand p l e R s m args below meth c B.U B.locs B.cells B.slots ∧ PostX ⟨T.setVm vm₁, locs, cells, slots⟩ argsL.toArray q B ∧
      Steps p.tables e below (T.setTop g) ((B.U.setTop { g with stack := rest }).pushFrame (.throwing q))) := by
  obtain ⟨mk, methM, cM, hnamed, hmethM, -, -, -, -, -, -, hsigM⟩ := Cond.codeWith_spec hcode
  have hstatic : methM.isStatic = true := Cond.static_spec hnamed hmethM hstat
  obtain ⟨kP, hkP, -⟩ := className_of_methodNamed hnamed
  have hinitP : kP.init = .initialized := Cond.initialized_spec (findClass_of_methodNamed hnamed) hkP hinit
  obtain ⟨vm₁, X₁, hstep₁⟩ := X.invokestatic hexec hown hlink hnamed hmethM hstatic hkP hinitP hy (g := g) hg (argsL := argsL) (rest := rest) (hlen _ hsigM) hstack hdg
  rcases hK m meth c ⟨T.setVm vm₁, locs, cells, slots⟩ { g with stack := rest } (.invokestatic index) mk argsL.toArray X₁ hg hsize hdg hW (X₁.named hnamed) (hpre vm₁ X₁.warmed) with ⟨v, B, X', hpost, hsteps⟩ | ⟨q, B, X', hpost, hsteps⟩
  · exact Or.inl ⟨v, vm₁, B, X₁.warmed, X', hpost, fun target h => hstep₁ _ fun acts => by rw [doInvoke_state]; exact hsteps.trans h⟩
  · exact Or.inr ⟨q, vm₁, B, X₁.warmed, X', hpost, hstep₁ _ fun acts => by rw [doInvoke_state]; exact hsteps⟩
theorem vx_callVW (X : Stand p l e R s m args below meth c T locs cells slots) (hexec : p.tables.exec = Jvm.exec) {own C : String} {index : Nat} {y : MethodName} {bytes : ByteArray} {maxL : Nat} {ret : Option FieldType} {hh : List (Nat × Nat × Nat × Nat)}
    (hown : s.vm.findClass own = some m.cls) (hlink : (Cond.methodLink own index y).before args s = true) (hinst : (Cond.instanceMethod y).before args s = true) (hsel : (Cond.selects C y y).before args s = true)
    (hcode : (Cond.codeWith y bytes maxL ret hh).before args s = true) (hy : y.cls ≠ "java/lang/invoke/MethodHandle" ∧ y.cls ≠ "java/lang/invoke/VarHandle")
    {W9 : Nat} {Pre : Pt → Array Value → Prop} {Post : Pt → Array Value → Option Value → Pt → Prop} (hK : Back l R p e below s args y 3 W9 Pre Post)
    {b : Addr} {cellB : Cell} (hcell : T.heap[b]? = some cellB) (hobj : cellB.vm.isStatics = false) (hcls : s.vm.findClass C = some cellB.cls)
    {g : JFrame} (hg : g.method = m) (hsize : g.locals.size = c.maxLocals) {argsL rest : List Value} (hlen : ∀ sig, parseMethodDescriptor y.desc = some sig → argsL.length = sig.parameters.length)
    (hstack : g.stack = argsL.reverse ++ .ref b :: rest) (hW : 2 * g.monitorRoom + (rest.map fun v => v.category).sum ≤ W9) (hdg : decode c.code g.pc = .ok (.invokevirtual index, 3))
    (hpre : ∀ vm₁, s.WarmedH vm₁ → Pre ⟨T.setVm vm₁, locs, cells, slots⟩ (Value.ref b :: argsL).toArray) :
    ∃ (v : Option Value) (vm₁ : Vm) (B : Pt), s.WarmedH vm₁ ∧ Stand p l e R s m args below meth c B.U B.locs B.cells B.slots ∧ Post ⟨T.setVm vm₁, locs, cells, slots⟩ (Value.ref b :: argsL).toArray v B ∧
      ∀ target, Steps p.tables e below (B.U.setTop { g with pc := g.pc + 3, stack := v.toList ++ rest }) target → Steps p.tables e below (T.setTop g) target := by
  obtain ⟨mk, methM, hnamed, hmethM, hstM, habM⟩ := Cond.instanceMethod_spec hinst
  obtain ⟨m8, methM', cM, hn8, hmethM', -, -, -, -, -, -, hsigM⟩ := Cond.codeWith_spec hcode
  cases Option.some.inj (hn8.symm.trans hnamed)
  cases hmethM.symm.trans hmethM'
  obtain ⟨c2, r2, m2, q1, q2, q3, q4, kP, hkP, hkPi⟩ := Cond.selects_spec hsel
  cases hcls.symm.trans q1
  cases (State.methodFound?_of_named hnamed hy).symm.trans q2
  cases hnamed.symm.trans q3
  have hselP : selectMethod e.platform s.vm cellB.cls mk = .method mk := by rw [Launch.admits_selectMethod X.admits]; exact q4
  obtain ⟨vm₁, X₁, hstep₁⟩ := X.invokevirtual hexec hown hlink hnamed hmethM hstM hkP hkPi hy (a := b) (cell := cellB) hcell
    (fun z h => by rw [h] at hobj; cases hobj) hselP hmethM habM hkP hkPi (g := g) hg (argsL := argsL) (rest := rest) (hlen _ hsigM) hstack hdg
  obtain ⟨v, B, X', hpost, hsteps⟩ := hK m meth c ⟨T.setVm vm₁, locs, cells, slots⟩ { g with stack := rest } (.invokevirtual index) mk (Value.ref b :: argsL).toArray X₁ hg hsize hdg hW (X₁.named hnamed) (hpre vm₁ X₁.warmed)
  exact ⟨v, vm₁, B, X₁.warmed, X', hpost, fun target h => hstep₁ _ fun acts => by rw [doInvoke_state]; exact hsteps.trans h⟩
abbrev vx_CVW (R : Room) (s : State) (args : Array Value) (own C : String) (index : Nat) (y : MethodName) (bytes : ByteArray) (maxL : Nat) (ret : Option FieldType) (hh : List (Nat × Nat × Nat × Nat)) (ws : List Cond) (rm : Room) (mc ms n : Nat) : Prop :=
  (rm.cells = mc ∧ rm.slots = ms ∧ rm.frames + 1 ≤ R.frames ∧ 8 + (maxL + 11) + rm.locals ≤ R.locals ∧ (∀ w ∈ ws, ∀ (a' : Array Value) (U : State), s.WarmedH U.vm → w.before a' U = true) ∧ Cond.codeWith y bytes maxL ret hh ∈ ws) ∧
  (Cond.codeWith y bytes maxL ret hh).before args s = true ∧ (Cond.initialized y.cls).before args s = true ∧ (y.cls ≠ "java/lang/invoke/MethodHandle" ∧ y.cls ≠ "java/lang/invoke/VarHandle") ∧
  (∀ sig, parseMethodDescriptor y.desc = some sig → n = sig.parameters.length) ∧ (Cond.methodLink own index y).before args s = true ∧ (Cond.instanceMethod y).before args s = true ∧ (Cond.selects C y y).before args s = true
theorem vx_cwVW {own C : String} {index maxL mc ms : Nat} {y : MethodName} {bytes : ByteArray} {ret : Option FieldType} {hh : List (Nat × Nat × Nat × Nat)} {Ts ws ws' : List Cond} {rm : Room} (n : Nat) (ht : ∀ w ∈ Ts, w.before args s = true) (hT : GoodIn Ts (wsV own index C y ws)) (hw : ws = Cond.codeWith y bytes maxL ret hh :: ws') (hrc : rm.cells = mc) (hrs : rm.slots = ms)
    (hd : y.cls = C ∧ y.cls ≠ "java/lang/invoke/MethodHandle" ∧ y.cls ≠ "java/lang/invoke/VarHandle" ∧ (parseMethodDescriptor y.desc).map (fun d => d.parameters.length) = some n) (hR : rm.frames + 1 ≤ R.frames ∧ 8 + (maxL + 11) + rm.locals ≤ R.locals) :
    vx_CVW R s args own C index y bytes maxL ret hh ws rm mc ms n := by
  obtain ⟨hC, hd⟩ := hd
  subst hC
  have ok : ∀ w ∈ wsV own index y.cls y ws, w.before args s = true := fun w h => ht w (hT w h).1
  have hG : GoodIn Ts ws := fun w h => hT w (by unfold wsV; exact List.mem_append_right _ h)
  have hc : Cond.codeWith y bytes maxL ret hh ∈ ws := by rw [hw]; exact List.mem_cons_self
  refine ⟨⟨hrc, hrs, hR.1, hR.2, pay_in ht hG, hc⟩, ht _ (hG _ hc).1, ok _ (by simp [wsV]), ⟨hd.1, hd.2.1⟩, fun sig h => ?_, ok _ (by simp [wsV]), ok _ (by simp [wsV]), ok _ (by simp [wsV])⟩
  have h2 := hd.2.2
  rw [h] at h2
  exact (Option.some.inj h2).symm
theorem vx_runVW {y : MethodName} {bytes cc : ByteArray} {maxL nL mc ms n index : Nat} {ret : Option FieldType} {hh : List (Nat × Nat × Nat × Nat)} {ws : List Cond} {rm : Room} {Pc : Array Value → State → Prop} {Qc : Array Value → State → Outcome → State → Prop} {free : Addr → Prop} {Ts : List Cond} {own C : String} {b : Addr} {As rest : List Value} {g : JFrame}
    (S : CallFix p m c cc nL s args Ts own) (hM : Met l y ws rm Pc Qc mc ms free) (cw : vx_CVW R s args own C index y bytes maxL ret hh ws rm mc ms n) (hp : PreV s H C b Pc As)
    (hg : g.method = m) (hn : As.length = n) (hsize : g.locals.size = nL) (hstack : g.stack = As.reverse ++ .ref b :: rest) (hW : 2 * g.monitorRoom + (rest.map fun v => v.category).sum ≤ 8) (hdg : decode cc g.pc = .ok (.invokevirtual index, 3)) (hf : cells + mc ≤ R.cells ∧ slots + ms ≤ R.slots) :
    va_Run p l e R s m args below meth c H locs cells slots mc ms g rest (Qc (Value.ref b :: As).toArray) free := by
  obtain ⟨⟨hrc, hrs, hfr, hlo, hws, hcw⟩, hcode, hini, hy, hlen, hl, hin, hse⟩ := cw
  have hK : Back l R p e below s args y 3 8 (PreOf R mc ms Pc) (PostOf Qc mc ms free) := va_backW (hh := hh) (bytes := bytes) (maxL := maxL) (ret := ret) hM hp.1 hrc hrs hfr hlo hws hcw (fun a' U hW => word_at hW (Or.inl (by first | rfl | simp [Cond.onTables, Cond.keeps, Cond.steady])) hini)
  obtain ⟨hx, hb, hml, ho, -⟩ := S
  obtain ⟨-, ⟨cellB, hcB, hoB, hclB⟩, hPc⟩ := hp
  intro T hT X
  obtain ⟨v, vm₁, ⟨U', l2, c2, s2⟩, hW₁, X', ⟨g', mk, t, L, e1, e2, hq, h1, hL, h2, h3⟩, st⟩ := vx_callVW X hx (C := C) (hh := hh) (bytes := bytes) (maxL := maxL) (ret := ret) ho hl hin hse hcode hy hK (by rw [hT]; exact hcB) hoB hclB hg (hsize.trans hml.symm) (argsL := As) (rest := rest) (fun sig h => hn.trans (hlen sig h)) hstack hW (by rw [hb]; exact hdg)
    (fun vm₁ hW₁ => ⟨hf.1, hf.2, hPc (T.setVm vm₁) hT hW₁⟩)
  dsimp only [Pt.U, Pt.locs, Pt.cells, Pt.slots] at X' e1 e2 h1 h2 h3 st
  subst h1; subst h2; subst h3
  exact ⟨v, (T.setVm vm₁).calling g' mk (Value.ref b :: As).toArray, t, U', L, hT, X', hL, e1, e2, hq, st⟩
section
variable {y : MethodName} {bytes cc : ByteArray} {maxL nL mc ms n index : Nat} {ret : Option FieldType} {ws : List Cond} {rm : Room} {Pc : Array Value → State → Prop} {Qc : Array Value → State → Outcome → State → Prop} {XC : String → State → State → Prop} {free : Addr → Prop} {Ts : List Cond} {own C : String} {b : Addr} {As rest : List Value} {g : JFrame}
theorem vx_runVX {hh : List (Nat × Nat × Nat × Nat)} (S : CallFix p m c cc nL s args Ts own) (hM : vx_Met l y ws rm Pc Qc XC mc ms free) (cw : vx_CVW R s args own C index y bytes maxL ret hh ws rm mc ms n) (hp : PreV s H C b Pc As)
    (hg : g.method = m) (hn : As.length = n) (hsize : g.locals.size = nL) (hstack : g.stack = As.reverse ++ .ref b :: rest) (hW : 2 * g.monitorRoom + (rest.map fun v => v.category).sum ≤ 8) (hdg : decode cc g.pc = .ok (.invokevirtual index, 3)) (hf : cells + mc ≤ R.cells ∧ slots + ms ≤ R.slots) :
    vx_Run p l e R s m args below meth c H locs cells slots mc ms g rest (Qc (Value.ref b :: As).toArray) XC free := by
  obtain ⟨⟨hrc, hrs, hfr, hlo, hws, hcw⟩, hcode, hini, hy, hlen, hl, hin, hse⟩ := cw
  have hK : vx_Back l R p e below s args y 3 8 (PreOf R mc ms Pc) (PostOf Qc mc ms free) (vx_Post XC mc ms free) := vx_backW (hh := hh) (bytes := bytes) (maxL := maxL) (ret := ret) hM hp.1 hrc hrs hfr hlo hws hcw (fun a' U hW => word_at hW (Or.inl (by first | rfl | simp [Cond.onTables, Cond.keeps, Cond.steady])) hini)
  obtain ⟨hx, hb, hml, ho, -⟩ := S
  obtain ⟨-, ⟨cellB, hcB, hoB, hclB⟩, hPc⟩ := hp
  intro T hT X
  rcases vx_callVX X hx (C := C) (hh := hh) (bytes := bytes) (maxL := maxL) (ret := ret) ho hl hin hse hcode hy hK (by rw [hT]; exact hcB) hoB hclB hg (hsize.trans hml.symm) (argsL := As) (rest := rest) (fun sig h => hn.trans (hlen sig h)) hstack hW (by rw [hb]; exact hdg)
    (fun vm₁ hW₁ => ⟨hf.1, hf.2, hPc (T.setVm vm₁) hT hW₁⟩) with ⟨v, vm₁, ⟨U', l2, c2, s2⟩, hW₁, X', ⟨g', mk, t, L, e1, e2, hq, h1, hL, h2, h3⟩, st⟩ | ⟨q, vm₁, ⟨U', l2, c2, s2⟩, hW₁, X', ⟨g', mk, t, L, E, ce, e1, e2, hq, hce, hcv, hcl, h1, hL, h2, h3⟩, st⟩
  · dsimp only [Pt.U, Pt.locs, Pt.cells, Pt.slots] at X' e1 e2 h1 h2 h3 st
    subst h1; subst h2; subst h3
    exact Or.inl ⟨v, (T.setVm vm₁).calling g' mk (Value.ref b :: As).toArray, t, U', L, hT, X', hL, e1, e2, hq, st⟩
  · dsimp only [Pt.U, Pt.locs, Pt.cells, Pt.slots] at X' e1 e2 h1 h2 h3 st hcl
    subst h1; subst h2; subst h3
    exact Or.inr ⟨q, (T.setVm vm₁).calling g' mk (Value.ref b :: As).toArray, t, U', L, E, ce, hT, X', hL, e1, e2, hq, hce, hcv, vx_cls hW₁ hcl, st⟩
theorem vx_runSX {hh : List (Nat × Nat × Nat × Nat)} (S : CallFix p m c cc nL s args Ts own) (hM : vx_Met l y ws rm Pc Qc XC mc ms free) (cw : vx_CSW R s args own index y bytes maxL ret hh ws rm mc ms n) (hp : PreS s H Pc As)
    (hg : g.method = m) (hn : As.length = n) (hsize : g.locals.size = nL) (hstack : g.stack = As.reverse ++ rest) (hW : 2 * g.monitorRoom + (rest.map fun v => v.category).sum ≤ 8) (hdg : decode cc g.pc = .ok (.invokestatic index, 3)) (hf : cells + mc ≤ R.cells ∧ slots + ms ≤ R.slots) :
    vx_Run p l e R s m args below meth c H locs cells slots mc ms g rest (Qc As.toArray) XC free := by
  obtain ⟨⟨hrc, hrs, hfr, hlo, hws, hcw⟩, hcode, hini, hy, hlen, hl, hstt⟩ := cw
  have hK : vx_Back l R p e below s args y 3 8 (PreOf R mc ms Pc) (PostOf Qc mc ms free) (vx_Post XC mc ms free) := vx_backW (hh := hh) (bytes := bytes) (maxL := maxL) (ret := ret) hM hp.1 hrc hrs hfr hlo hws hcw (fun a' U hW => word_at hW (Or.inl (by first | rfl | simp [Cond.onTables, Cond.keeps, Cond.steady])) hini)
  obtain ⟨hx, hb, hml, ho, -⟩ := S
  intro T hT X
  rcases vx_callSX X hx (hh := hh) (bytes := bytes) (maxL := maxL) (ret := ret) ho hl hstt hini hcode hy hK hg (hsize.trans hml.symm) (argsL := As) (rest := rest) (fun sig h => hn.trans (hlen sig h)) hstack hW (by rw [hb]; exact hdg)
    (fun vm₁ hW₁ => ⟨hf.1, hf.2, hp.2 (T.setVm vm₁) hT hW₁⟩) with ⟨v, vm₁, ⟨U', l2, c2, s2⟩, hW₁, X', ⟨g', mk, t, L, e1, e2, hq, h1, hL, h2, h3⟩, st⟩ | ⟨q, vm₁, ⟨U', l2, c2, s2⟩, hW₁, X', ⟨g', mk, t, L, E, ce, e1, e2, hq, hce, hcv, hcl, h1, hL, h2, h3⟩, st⟩
  · dsimp only [Pt.U, Pt.locs, Pt.cells, Pt.slots] at X' e1 e2 h1 h2 h3 st
    subst h1; subst h2; subst h3
    exact Or.inl ⟨v, (T.setVm vm₁).calling g' mk As.toArray, t, U', L, hT, X', hL, e1, e2, hq, st⟩
  · dsimp only [Pt.U, Pt.locs, Pt.cells, Pt.slots] at X' e1 e2 h1 h2 h3 st hcl
    subst h1; subst h2; subst h3
    exact Or.inr ⟨q, (T.setVm vm₁).calling g' mk As.toArray, t, U', L, E, ce, hT, X', hL, e1, e2, hq, hce, hcv, vx_cls hW₁ hcl, st⟩
end
end VXH
theorem vx_ofWH {l : Launch} {y : MethodName} {ws ws' : List Cond} {rm : Room} {Pc : Array Value → State → Prop} {Qc : Array Value → State → Outcome → State → Prop} {XC : String → State → State → Prop} {mc ms : Nat} {free : Addr → Prop} {cc : ByteArray} {maxL : Nat} {ret : Option FieldType} {hh : List (Nat × Nat × Nat × Nat)}
    (hy : plainName y.cls = true) (hw : ws = Cond.codeWith y cc maxL ret hh :: ws')
    (body : ∀ p e s m args below meth c s₁, BodyLoose p l y (headSpec ws rm) cc maxL ret e s m args below meth c s₁ → c.maxLocals = maxL → Pc args s →
      W p l e (headSpec ws rm).room s m args below meth c s.heap [] 0 0 (vx_MQ below Qc XC args s mc ms free) (entryFrame m args maxL)) : vx_Met l y ws rm Pc Qc XC mc ms free := by
  refine MetFree.of_bodyS (code := cc) (maxLocals := maxL) (ret := ret) hy ?_ ?_
  · intro args s m h hn
    obtain ⟨m9, meth, c, hn9, h1, h2, h3, h4, -, h5, h6, -⟩ := Cond.codeWith_spec (atoms_spec (ws := ws) h _ (by rw [hw]; exact List.mem_cons_self))
    cases hn.symm.trans hn9
    exact ⟨meth, c, h1, h2, h3, h4, h5, h6⟩
  · intro p e s m args below meth c s₁ B hml hP _
    have hh0 : s₁.heap = s.heap := by rw [B.state]; rfl
    obtain ⟨t, a1, o, b1, b2, b3⟩ := body p e s m args below meth c s₁ B hml hP s₁ hh0 (Stand.of_body B)
    exact ⟨t, o, a1, b1, b2, b3⟩
/-! ===== END ===== -/
end
section
/-! names: classes, fields, methods; printed by names.py (own work) out of the Statement's tables and javap's listing -/
def R_Jb : String := "TabledExecutive$Job"
def F_Jb : u_T := fun k => match k with
  | 0 => ("TabledExecutive$Job", "registers", "[I", true)
  | 1 => ("TabledExecutive$Job", "place", "I", false)
  | 2 => ("TabledExecutive$Job", "had", "I", false)
  | 3 => ("TabledExecutive$Job", "released", "I", false)
  | _ => ("TabledExecutive$Job", "open", "Z", false)
def t_Jb : Nat → FieldType := fun k => match k with
  | 0 => .array .int
  | 1 => .int
  | 2 => .int
  | 3 => .int
  | _ => .boolean
theorem n_Jb : ∀ a, a < 5 → ∀ b, b < 5 → a ≠ b → (F_Jb a).2.1 ≠ (F_Jb b).2.1 := by decide +kernel
theorem t_Jb_ok : ∀ k, k < 5 → parseFieldDescriptor (F_Jb k).2.2.1 = some (t_Jb k) := by decide +kernel
def R_Mc : String := "TabledExecutive$Machine"
def F_Mc : u_T := fun k => match k with
  | 0 => ("TabledExecutive$Machine", "code", "[I", true)
  | _ => ("TabledExecutive$Machine", "words", "[I", true)
def t_Mc : Nat → FieldType := fun k => match k with
  | 0 => .array .int
  | _ => .array .int
theorem n_Mc : ∀ a, a < 2 → ∀ b, b < 2 → a ≠ b → (F_Mc a).2.1 ≠ (F_Mc b).2.1 := by decide +kernel
theorem t_Mc_ok : ∀ k, k < 2 → parseFieldDescriptor (F_Mc k).2.2.1 = some (t_Mc k) := by decide +kernel
def R_Pl : String := "TabledExecutive$Planner"
def F_Pl : u_T := fun k => match k with
  | 0 => ("TabledExecutive$Planner", "wanted", "[I", true)
  | _ => ("TabledExecutive$Planner", "windowEnds", "[I", true)
def t_Pl : Nat → FieldType := fun k => match k with
  | 0 => .array .int
  | _ => .array .int
theorem n_Pl : ∀ a, a < 2 → ∀ b, b < 2 → a ≠ b → (F_Pl a).2.1 ≠ (F_Pl b).2.1 := by decide +kernel
theorem t_Pl_ok : ∀ k, k < 2 → parseFieldDescriptor (F_Pl k).2.2.1 = some (t_Pl k) := by decide +kernel
def R_Tb : String := "TabledExecutive$Table"
def F_Tb : u_T := fun k => match k with
  | 0 => ("TabledExecutive$Table", "starts", "[I", true)
  | 1 => ("TabledExecutive$Table", "lengths", "[I", true)
  | 2 => ("TabledExecutive$Table", "slotTasks", "[I", true)
  | _ => ("TabledExecutive$Table", "size", "I", false)
def t_Tb : Nat → FieldType := fun k => match k with
  | 0 => .array .int
  | 1 => .array .int
  | 2 => .array .int
  | _ => .int
theorem n_Tb : ∀ a, a < 4 → ∀ b, b < 4 → a ≠ b → (F_Tb a).2.1 ≠ (F_Tb b).2.1 := by decide +kernel
theorem t_Tb_ok : ∀ k, k < 4 → parseFieldDescriptor (F_Tb k).2.2.1 = some (t_Tb k) := by decide +kernel
def R_Tk : String := "TabledExecutive$Task"
def F_Tk : u_T := fun k => match k with
  | 0 => ("TabledExecutive$Task", "period", "I", false)
  | 1 => ("TabledExecutive$Task", "work", "I", false)
  | 2 => ("TabledExecutive$Task", "deadline", "I", false)
  | 3 => ("TabledExecutive$Task", "offset", "I", false)
  | 4 => ("TabledExecutive$Task", "firstPlace", "I", false)
  | 5 => ("TabledExecutive$Task", "job", "LTabledExecutive$Job;", true)
  | _ => ("TabledExecutive$Task", "counts", "[I", true)
def t_Tk : Nat → FieldType := fun k => match k with
  | 0 => .int
  | 1 => .int
  | 2 => .int
  | 3 => .int
  | 4 => .int
  | 5 => .object "TabledExecutive$Job"
  | _ => .array .int
theorem n_Tk : ∀ a, a < 7 → ∀ b, b < 7 → a ≠ b → (F_Tk a).2.1 ≠ (F_Tk b).2.1 := by decide +kernel
theorem t_Tk_ok : ∀ k, k < 7 → parseFieldDescriptor (F_Tk k).2.2.1 = some (t_Tk k) := by decide +kernel
def R_Tl : String := "TabledExecutive$TaskList"
def F_Tl : u_T := fun k => match k with
  | 0 => ("TabledExecutive$TaskList", "rows", "[LTabledExecutive$Task;", true)
  | _ => ("TabledExecutive$TaskList", "size", "I", false)
def t_Tl : Nat → FieldType := fun k => match k with
  | 0 => .array (.object "TabledExecutive$Task")
  | _ => .int
theorem n_Tl : ∀ a, a < 2 → ∀ b, b < 2 → a ≠ b → (F_Tl a).2.1 ≠ (F_Tl b).2.1 := by decide +kernel
theorem t_Tl_ok : ∀ k, k < 2 → parseFieldDescriptor (F_Tl k).2.2.1 = some (t_Tl k) := by decide +kernel
def R_Ex : String := "TabledExecutive"
def F_Ex : u_T := fun k => match k with
  | 0 => ("TabledExecutive", "tasks", "LTabledExecutive$TaskList;", true)
  | 1 => ("TabledExecutive", "table", "LTabledExecutive$Table;", true)
  | 2 => ("TabledExecutive", "planner", "LTabledExecutive$Planner;", true)
  | 3 => ("TabledExecutive", "machine", "LTabledExecutive$Machine;", true)
  | 4 => ("TabledExecutive", "owners", "[I", true)
  | 5 => ("TabledExecutive", "running", "Z", false)
  | 6 => ("TabledExecutive", "runRound", "I", false)
  | _ => ("TabledExecutive", "now", "I", false)
def t_Ex : Nat → FieldType := fun k => match k with
  | 0 => .object "TabledExecutive$TaskList"
  | 1 => .object "TabledExecutive$Table"
  | 2 => .object "TabledExecutive$Planner"
  | 3 => .object "TabledExecutive$Machine"
  | 4 => .array .int
  | 5 => .boolean
  | 6 => .int
  | _ => .int
theorem n_Ex : ∀ a, a < 8 → ∀ b, b < 8 → a ≠ b → (F_Ex a).2.1 ≠ (F_Ex b).2.1 := by decide +kernel
theorem t_Ex_ok : ∀ k, k < 8 → parseFieldDescriptor (F_Ex k).2.2.1 = some (t_Ex k) := by decide +kernel
def R_Md : String := "TabledExecutiveModel"
def F_Md : u_T := fun k => match k with
  | 0 => ("TabledExecutiveModel", "fault", "I", false)
  | 1 => ("TabledExecutiveModel", "runs", "Z", false)
  | 2 => ("TabledExecutiveModel", "tasks", "I", false)
  | 3 => ("TabledExecutiveModel", "period", "[I", true)
  | 4 => ("TabledExecutiveModel", "work", "[I", true)
  | 5 => ("TabledExecutiveModel", "deadline", "[I", true)
  | 6 => ("TabledExecutiveModel", "offset", "[I", true)
  | 7 => ("TabledExecutiveModel", "entry", "[I", true)
  | 8 => ("TabledExecutiveModel", "slots", "I", false)
  | 9 => ("TabledExecutiveModel", "start", "[I", true)
  | 10 => ("TabledExecutiveModel", "length", "[I", true)
  | 11 => ("TabledExecutiveModel", "owner", "[I", true)
  | 12 => ("TabledExecutiveModel", "code", "[I", true)
  | 13 => ("TabledExecutiveModel", "shared", "[I", true)
  | 14 => ("TabledExecutiveModel", "time", "I", false)
  | 15 => ("TabledExecutiveModel", "lives", "[Z", true)
  | 16 => ("TabledExecutiveModel", "since", "[I", true)
  | 17 => ("TabledExecutiveModel", "had", "[I", true)
  | 18 => ("TabledExecutiveModel", "place", "[I", true)
  | 19 => ("TabledExecutiveModel", "register", "[I", true)
  | 20 => ("TabledExecutiveModel", "counted", "[I", true)
  | _ => ("TabledExecutiveModel", "goes", "[I", true)
def t_Md : Nat → FieldType := fun k => match k with
  | 0 => .int
  | 1 => .boolean
  | 2 => .int
  | 3 => .array .int
  | 4 => .array .int
  | 5 => .array .int
  | 6 => .array .int
  | 7 => .array .int
  | 8 => .int
  | 9 => .array .int
  | 10 => .array .int
  | 11 => .array .int
  | 12 => .array .int
  | 13 => .array .int
  | 14 => .int
  | 15 => .array .boolean
  | 16 => .array .int
  | 17 => .array .int
  | 18 => .array .int
  | 19 => .array .int
  | 20 => .array .int
  | _ => .array .int
theorem n_Md : ∀ a, a < 22 → ∀ b, b < 22 → a ≠ b → (F_Md a).2.1 ≠ (F_Md b).2.1 := by decide +kernel
theorem t_Md_ok : ∀ k, k < 22 → parseFieldDescriptor (F_Md k).2.2.1 = some (t_Md k) := by decide +kernel
def R_Lw : String := "TabledExecutiveLaw"
def R_Ma : String := "java/lang/Math"
def R_Ar : String := "java/util/Arrays"
abbrev b_Ex_init : ByteArray := prog_1_method_1_code
abbrev y_Ex_init : MethodName := ⟨"TabledExecutive", "<init>", "()V"⟩
abbrev b_Tl_init : ByteArray := prog_7_method_1_code
abbrev y_Tl_init : MethodName := ⟨"TabledExecutive$TaskList", "<init>", "()V"⟩
abbrev b_Tk_init : ByteArray := prog_6_method_1_code
abbrev y_Tk_init : MethodName := ⟨"TabledExecutive$Task", "<init>", "()V"⟩
abbrev b_Jb_init : ByteArray := prog_2_method_1_code
abbrev y_Jb_init : MethodName := ⟨"TabledExecutive$Job", "<init>", "()V"⟩
abbrev b_Tb_init : ByteArray := prog_5_method_1_code
abbrev y_Tb_init : MethodName := ⟨"TabledExecutive$Table", "<init>", "()V"⟩
abbrev b_Pl_init : ByteArray := prog_4_method_1_code
abbrev y_Pl_init : MethodName := ⟨"TabledExecutive$Planner", "<init>", "()V"⟩
abbrev b_Mc_init : ByteArray := prog_3_method_1_code
abbrev y_Mc_init : MethodName := ⟨"TabledExecutive$Machine", "<init>", "()V"⟩
abbrev b_Ex_round : ByteArray := prog_1_method_6_code
abbrev y_Ex_round : MethodName := ⟨"TabledExecutive", "round", "()I"⟩
abbrev b_Tl_commonRound : ByteArray := prog_7_method_3_code
abbrev y_Tl_commonRound : MethodName := ⟨"TabledExecutive$TaskList", "commonRound", "()I"⟩
abbrev b_Tl_isCommonMultiple : ByteArray := prog_7_method_4_code
abbrev y_Tl_isCommonMultiple : MethodName := ⟨"TabledExecutive$TaskList", "isCommonMultiple", "(I)Z"⟩
abbrev b_Ex_slots : ByteArray := prog_1_method_10_code
abbrev y_Ex_slots : MethodName := ⟨"TabledExecutive", "slots", "()I"⟩
abbrev b_Ex_time : ByteArray := prog_1_method_16_code
abbrev y_Ex_time : MethodName := ⟨"TabledExecutive", "time", "()I"⟩
abbrev b_Lw_load : ByteArray := method_3_code
abbrev y_Lw_load : MethodName := ⟨"TabledExecutiveLaw", "load", "(LTabledExecutive;II)I"⟩
abbrev b_Ex_load : ByteArray := prog_1_method_2_code
abbrev y_Ex_load : MethodName := ⟨"TabledExecutive", "load", "(II)V"⟩
abbrev b_Ex_needEdit : ByteArray := prog_1_method_19_code
abbrev y_Ex_needEdit : MethodName := ⟨"TabledExecutive", "needEdit", "()V"⟩
abbrev b_Ex_needIndex : ByteArray := prog_1_method_21_code
abbrev y_Ex_needIndex : MethodName := ⟨"TabledExecutive", "needIndex", "(II)V"⟩
abbrev b_Lw_task : ByteArray := method_4_code
abbrev y_Lw_task : MethodName := ⟨"TabledExecutiveLaw", "task", "(LTabledExecutive;IIII[J)I"⟩
abbrev b_Ex_task : ByteArray := prog_1_method_3_code
abbrev y_Ex_task : MethodName := ⟨"TabledExecutive", "task", "(IIII)I"⟩
abbrev b_Ex_isTask : ByteArray := prog_1_method_22_code
abbrev y_Ex_isTask : MethodName := ⟨"TabledExecutive", "isTask", "(IIII)Z"⟩
abbrev b_Tl_append : ByteArray := prog_7_method_2_code
abbrev y_Tl_append : MethodName := ⟨"TabledExecutive$TaskList", "append", "(IIII)I"⟩
abbrev b_Tk_forgetRun : ByteArray := prog_6_method_3_code
abbrev y_Tk_forgetRun : MethodName := ⟨"TabledExecutive$Task", "forgetRun", "()V"⟩
abbrev b_Ar_fill : ByteArray := prog_18_method_103_code
abbrev y_Ar_fill : MethodName := ⟨"java/util/Arrays", "fill", "([II)V"⟩
abbrev b_Lw_entry : ByteArray := method_5_code
abbrev y_Lw_entry : MethodName := ⟨"TabledExecutiveLaw", "entry", "(LTabledExecutive;II)I"⟩
abbrev b_Ex_entry : ByteArray := prog_1_method_4_code
abbrev y_Ex_entry : MethodName := ⟨"TabledExecutive", "entry", "(II)V"⟩
abbrev b_Lw_clear : ByteArray := method_6_code
abbrev y_Lw_clear : MethodName := ⟨"TabledExecutiveLaw", "clear", "(LTabledExecutive;)I"⟩
abbrev b_Ex_clear : ByteArray := prog_1_method_5_code
abbrev y_Ex_clear : MethodName := ⟨"TabledExecutive", "clear", "()V"⟩
abbrev b_Lw_synthesize : ByteArray := method_7_code
abbrev y_Lw_synthesize : MethodName := ⟨"TabledExecutiveLaw", "synthesize", "(LTabledExecutive;[J)I"⟩
abbrev b_Ex_synthesize : ByteArray := prog_1_method_7_code
abbrev y_Ex_synthesize : MethodName := ⟨"TabledExecutive", "synthesize", "()I"⟩
abbrev b_Pl_plan : ByteArray := prog_4_method_2_code
abbrev y_Pl_plan : MethodName := ⟨"TabledExecutive$Planner", "plan", "(LTabledExecutive$TaskList;[II)Z"⟩
abbrev b_Tl_workInRound : ByteArray := prog_7_method_6_code
abbrev y_Tl_workInRound : MethodName := ⟨"TabledExecutive$TaskList", "workInRound", "(I)I"⟩
abbrev b_Tl_greatestOffset : ByteArray := prog_7_method_5_code
abbrev y_Tl_greatestOffset : MethodName := ⟨"TabledExecutive$TaskList", "greatestOffset", "()I"⟩
abbrev b_Ma_max : ByteArray := prog_14_method_65_code
abbrev y_Ma_max : MethodName := ⟨"java/lang/Math", "max", "(II)I"⟩
abbrev b_Pl_release : ByteArray := prog_4_method_3_code
abbrev y_Pl_release : MethodName := ⟨"TabledExecutive$Planner", "release", "(LTabledExecutive$TaskList;I)V"⟩
abbrev b_Tk_releasesAt : ByteArray := prog_6_method_2_code
abbrev y_Tk_releasesAt : MethodName := ⟨"TabledExecutive$Task", "releasesAt", "(I)Z"⟩
abbrev b_Pl_mostUrgent : ByteArray := prog_4_method_4_code
abbrev y_Pl_mostUrgent : MethodName := ⟨"TabledExecutive$Planner", "mostUrgent", "(I)I"⟩
abbrev b_Pl_missesWindow : ByteArray := prog_4_method_5_code
abbrev y_Pl_missesWindow : MethodName := ⟨"TabledExecutive$Planner", "missesWindow", "(II)Z"⟩
abbrev b_Tb_become : ByteArray := prog_5_method_4_code
abbrev y_Tb_become : MethodName := ⟨"TabledExecutive$Table", "become", "([II)Z"⟩
abbrev b_Tb_put : ByteArray := prog_5_method_3_code
abbrev y_Tb_put : MethodName := ⟨"TabledExecutive$Table", "put", "(IIII)V"⟩
abbrev b_Lw_slot : ByteArray := method_8_code
abbrev y_Lw_slot : MethodName := ⟨"TabledExecutiveLaw", "slot", "(LTabledExecutive;IIII)I"⟩
abbrev b_Ex_slot : ByteArray := prog_1_method_8_code
abbrev y_Ex_slot : MethodName := ⟨"TabledExecutive", "slot", "(IIII)V"⟩
abbrev b_Ma_min : ByteArray := prog_14_method_69_code
abbrev y_Ma_min : MethodName := ⟨"java/lang/Math", "min", "(II)I"⟩
abbrev b_Lw_drop : ByteArray := method_9_code
abbrev y_Lw_drop : MethodName := ⟨"TabledExecutiveLaw", "drop", "(LTabledExecutive;)I"⟩
abbrev b_Ex_drop : ByteArray := prog_1_method_9_code
abbrev y_Ex_drop : MethodName := ⟨"TabledExecutive", "drop", "()V"⟩
abbrev b_Lw_slotOf : ByteArray := method_10_code
abbrev y_Lw_slotOf : MethodName := ⟨"TabledExecutiveLaw", "slotOf", "(LTabledExecutive;II[J)I"⟩
abbrev b_Ex_slotOf : ByteArray := prog_1_method_11_code
abbrev y_Ex_slotOf : MethodName := ⟨"TabledExecutive", "slotOf", "(II)I"⟩
abbrev b_Tb_part : ByteArray := prog_5_method_2_code
abbrev y_Tb_part : MethodName := ⟨"TabledExecutive$Table", "part", "(II)I"⟩
abbrev b_Lw_check : ByteArray := method_11_code
abbrev y_Lw_check : MethodName := ⟨"TabledExecutiveLaw", "check", "(LTabledExecutive;[J)I"⟩
abbrev b_Ex_check : ByteArray := prog_1_method_12_code
abbrev y_Ex_check : MethodName := ⟨"TabledExecutive", "check", "()Z"⟩
abbrev b_Tb_spread : ByteArray := prog_5_method_5_code
abbrev y_Tb_spread : MethodName := ⟨"TabledExecutive$Table", "spread", "([II)Z"⟩
abbrev b_Tl_areServed : ByteArray := prog_7_method_7_code
abbrev y_Tl_areServed : MethodName := ⟨"TabledExecutive$TaskList", "areServed", "([II)Z"⟩
abbrev b_Tk_isServed : ByteArray := prog_6_method_5_code
abbrev y_Tk_isServed : MethodName := ⟨"TabledExecutive$Task", "isServed", "(I[II)Z"⟩
abbrev b_Tk_ticksOf : ByteArray := prog_6_method_6_code
abbrev y_Tk_ticksOf : MethodName := ⟨"TabledExecutive$Task", "ticksOf", "(III[II)I"⟩
abbrev b_Ex_startRun : ByteArray := prog_1_method_23_code
abbrev y_Ex_startRun : MethodName := ⟨"TabledExecutive", "startRun", "(I)V"⟩
abbrev b_Lw_stop : ByteArray := method_12_code
abbrev y_Lw_stop : MethodName := ⟨"TabledExecutiveLaw", "stop", "(LTabledExecutive;)I"⟩
abbrev b_Ex_stop : ByteArray := prog_1_method_13_code
abbrev y_Ex_stop : MethodName := ⟨"TabledExecutive", "stop", "()V"⟩
abbrev b_Ex_needRun : ByteArray := prog_1_method_20_code
abbrev y_Ex_needRun : MethodName := ⟨"TabledExecutive", "needRun", "()V"⟩
abbrev b_Lw_tick : ByteArray := method_13_code
abbrev y_Lw_tick : MethodName := ⟨"TabledExecutiveLaw", "tick", "(LTabledExecutive;[J)I"⟩
abbrev b_Ex_tick : ByteArray := prog_1_method_14_code
abbrev y_Ex_tick : MethodName := ⟨"TabledExecutive", "tick", "()I"⟩
abbrev b_Ex_runTick : ByteArray := prog_1_method_24_code
abbrev y_Ex_runTick : MethodName := ⟨"TabledExecutive", "runTick", "()I"⟩
abbrev b_Tl_releaseJobs : ByteArray := prog_7_method_8_code
abbrev y_Tl_releaseJobs : MethodName := ⟨"TabledExecutive$TaskList", "releaseJobs", "(I)V"⟩
abbrev b_Jb_start : ByteArray := prog_2_method_2_code
abbrev y_Jb_start : MethodName := ⟨"TabledExecutive$Job", "start", "(II)V"⟩
abbrev b_Ma_floorMod : ByteArray := prog_14_method_50_code
abbrev y_Ma_floorMod : MethodName := ⟨"java/lang/Math", "floorMod", "(II)I"⟩
abbrev b_Ex_serve : ByteArray := prog_1_method_25_code
abbrev y_Ex_serve : MethodName := ⟨"TabledExecutive", "serve", "(LTabledExecutive$Task;)I"⟩
abbrev b_Mc_step : ByteArray := prog_3_method_2_code
abbrev y_Mc_step : MethodName := ⟨"TabledExecutive$Machine", "step", "(LTabledExecutive$Job;)I"⟩
abbrev b_Mc_placeOf : ByteArray := prog_3_method_4_code
abbrev y_Mc_placeOf : MethodName := ⟨"TabledExecutive$Machine", "placeOf", "(I)I"⟩
abbrev b_Mc_jumpIf : ByteArray := prog_3_method_3_code
abbrev y_Mc_jumpIf : MethodName := ⟨"TabledExecutive$Machine", "jumpIf", "(ZILTabledExecutive$Job;)V"⟩
abbrev b_Tk_endJob : ByteArray := prog_6_method_4_code
abbrev y_Tk_endJob : MethodName := ⟨"TabledExecutive$Task", "endJob", "(II)V"⟩
abbrev b_Lw_ticks : ByteArray := method_14_code
abbrev y_Lw_ticks : MethodName := ⟨"TabledExecutiveLaw", "ticks", "(LTabledExecutive;I[J)I"⟩
abbrev b_Ex_ticks : ByteArray := prog_1_method_15_code
abbrev y_Ex_ticks : MethodName := ⟨"TabledExecutive", "ticks", "(I)I"⟩
abbrev b_Lw_count : ByteArray := method_15_code
abbrev y_Lw_count : MethodName := ⟨"TabledExecutiveLaw", "count", "(LTabledExecutive;II[J)I"⟩
abbrev b_Ex_count : ByteArray := prog_1_method_17_code
abbrev y_Ex_count : MethodName := ⟨"TabledExecutive", "count", "(II)I"⟩
abbrev b_Lw_shared : ByteArray := method_16_code
abbrev y_Lw_shared : MethodName := ⟨"TabledExecutiveLaw", "shared", "(LTabledExecutive;I[J)I"⟩
abbrev b_Ex_shared : ByteArray := prog_1_method_18_code
abbrev y_Ex_shared : MethodName := ⟨"TabledExecutive", "shared", "(I)I"⟩
abbrev b_Md_init : ByteArray := prog_9_method_1_code
abbrev y_Md_init : MethodName := ⟨"TabledExecutiveModel", "<init>", "()V"⟩
abbrev b_Md_thrown : ByteArray := prog_9_method_2_code
abbrev y_Md_thrown : MethodName := ⟨"TabledExecutiveModel", "thrown", "()I"⟩
abbrev b_Md_load : ByteArray := prog_9_method_4_code
abbrev y_Md_load : MethodName := ⟨"TabledExecutiveModel", "load", "(II)V"⟩
abbrev b_Md_refused : ByteArray := prog_9_method_3_code
abbrev y_Md_refused : MethodName := ⟨"TabledExecutiveModel", "refused", "(I)Z"⟩
abbrev b_Md_task : ByteArray := prog_9_method_5_code
abbrev y_Md_task : MethodName := ⟨"TabledExecutiveModel", "task", "(IIII)I"⟩
abbrev b_Md_entry : ByteArray := prog_9_method_6_code
abbrev y_Md_entry : MethodName := ⟨"TabledExecutiveModel", "entry", "(II)V"⟩
abbrev b_Md_clear : ByteArray := prog_9_method_7_code
abbrev y_Md_clear : MethodName := ⟨"TabledExecutiveModel", "clear", "()V"⟩
abbrev b_Md_round : ByteArray := prog_9_method_9_code
abbrev y_Md_round : MethodName := ⟨"TabledExecutiveModel", "round", "()I"⟩
abbrev b_Md_whole : ByteArray := prog_9_method_8_code
abbrev y_Md_whole : MethodName := ⟨"TabledExecutiveModel", "whole", "()I"⟩
abbrev b_Md_synthesize : ByteArray := prog_9_method_14_code
abbrev y_Md_synthesize : MethodName := ⟨"TabledExecutiveModel", "synthesize", "()I"⟩
abbrev b_Md_greatestOffset : ByteArray := prog_9_method_10_code
abbrev y_Md_greatestOffset : MethodName := ⟨"TabledExecutiveModel", "greatestOffset", "()I"⟩
abbrev b_Md_imagine : ByteArray := prog_9_method_13_code
abbrev y_Md_imagine : MethodName := ⟨"TabledExecutiveModel", "imagine", "(II)Z"⟩
abbrev b_Md_isReleased : ByteArray := prog_9_method_11_code
abbrev y_Md_isReleased : MethodName := ⟨"TabledExecutiveModel", "isReleased", "(II)Z"⟩
abbrev b_Md_chosen : ByteArray := prog_9_method_12_code
abbrev y_Md_chosen : MethodName := ⟨"TabledExecutiveModel", "chosen", "()I"⟩
abbrev b_Md_slot : ByteArray := prog_9_method_15_code
abbrev y_Md_slot : MethodName := ⟨"TabledExecutiveModel", "slot", "(IIII)V"⟩
abbrev b_Md_drop : ByteArray := prog_9_method_16_code
abbrev y_Md_drop : MethodName := ⟨"TabledExecutiveModel", "drop", "()V"⟩
abbrev b_Md_slots : ByteArray := prog_9_method_17_code
abbrev y_Md_slots : MethodName := ⟨"TabledExecutiveModel", "slots", "()I"⟩
abbrev b_Md_slotOf : ByteArray := prog_9_method_18_code
abbrev y_Md_slotOf : MethodName := ⟨"TabledExecutiveModel", "slotOf", "(II)I"⟩
abbrev b_Md_check : ByteArray := prog_9_method_23_code
abbrev y_Md_check : MethodName := ⟨"TabledExecutiveModel", "check", "()Z"⟩
abbrev b_Md_isGood : ByteArray := prog_9_method_22_code
abbrev y_Md_isGood : MethodName := ⟨"TabledExecutiveModel", "isGood", "()Z"⟩
abbrev b_Md_covering : ByteArray := prog_9_method_19_code
abbrev y_Md_covering : MethodName := ⟨"TabledExecutiveModel", "covering", "(I)I"⟩
abbrev b_Md_isServed : ByteArray := prog_9_method_21_code
abbrev y_Md_isServed : MethodName := ⟨"TabledExecutiveModel", "isServed", "(II)Z"⟩
abbrev b_Md_at : ByteArray := prog_9_method_20_code
abbrev y_Md_at : MethodName := ⟨"TabledExecutiveModel", "at", "(I)I"⟩
abbrev b_Md_stop : ByteArray := prog_9_method_24_code
abbrev y_Md_stop : MethodName := ⟨"TabledExecutiveModel", "stop", "()V"⟩
abbrev b_Md_tick : ByteArray := prog_9_method_28_code
abbrev y_Md_tick : MethodName := ⟨"TabledExecutiveModel", "tick", "()I"⟩
abbrev b_Md_one : ByteArray := prog_9_method_27_code
abbrev y_Md_one : MethodName := ⟨"TabledExecutiveModel", "one", "()I"⟩
abbrev b_Md_release : ByteArray := prog_9_method_26_code
abbrev y_Md_release : MethodName := ⟨"TabledExecutiveModel", "release", "(I)V"⟩
abbrev b_Md_instruct : ByteArray := prog_9_method_25_code
abbrev y_Md_instruct : MethodName := ⟨"TabledExecutiveModel", "instruct", "(I)I"⟩
abbrev b_Md_ticks : ByteArray := prog_9_method_29_code
abbrev y_Md_ticks : MethodName := ⟨"TabledExecutiveModel", "ticks", "(I)I"⟩
abbrev b_Md_time : ByteArray := prog_9_method_30_code
abbrev y_Md_time : MethodName := ⟨"TabledExecutiveModel", "time", "()I"⟩
abbrev b_Md_count : ByteArray := prog_9_method_31_code
abbrev y_Md_count : MethodName := ⟨"TabledExecutiveModel", "count", "(II)I"⟩
abbrev b_Md_shared : ByteArray := prog_9_method_32_code
abbrev y_Md_shared : MethodName := ⟨"TabledExecutiveModel", "shared", "(I)I"⟩
abbrev b_Lw_law : ByteArray := code
abbrev y_Lw_law : MethodName := ⟨"TabledExecutiveLaw", "law", "([I)Z"⟩
abbrev zCl : List vw_C := [(R_Jb, F_Jb, 5), (R_Mc, F_Mc, 2), (R_Pl, F_Pl, 2), (R_Tb, F_Tb, 4), (R_Tk, F_Tk, 7), (R_Tl, F_Tl, 2), (R_Ex, F_Ex, 8), (R_Md, F_Md, 22)]
end
section
/-! the words: those of the tables that stay true; each by its place -/
def zG : List Cond := lw_tbl.filter goodWord
theorem zG_good : ∀ w ∈ zG, goodWord w = true := fun w h => (List.mem_filter.mp h).2
theorem zG_of {w : Cond} (i : Nat) (h : lw_tbl[i]? = some w) (hg : goodWord w = true) : w ∈ zG := List.mem_filter.mpr ⟨List.mem_of_getElem? h, hg⟩
theorem k_0 : (Cond.selects "TabledExecutive$TaskList" (⟨"TabledExecutive$TaskList", "isCommonMultiple", "(I)Z"⟩ : MethodName) (⟨"TabledExecutive$TaskList", "isCommonMultiple", "(I)Z"⟩ : MethodName)) ∈ zG := zG_of 0 (by decide +kernel) (by decide +kernel)
theorem k_1 : (Cond.selects "TabledExecutive" (⟨"TabledExecutive", "needEdit", "()V"⟩ : MethodName) (⟨"TabledExecutive", "needEdit", "()V"⟩ : MethodName)) ∈ zG := zG_of 1 (by decide +kernel) (by decide +kernel)
theorem k_3 : (Cond.selects "TabledExecutive$Planner" (⟨"TabledExecutive$Planner", "release", "(LTabledExecutive$TaskList;I)V"⟩ : MethodName) (⟨"TabledExecutive$Planner", "release", "(LTabledExecutive$TaskList;I)V"⟩ : MethodName)) ∈ zG := zG_of 3 (by decide +kernel) (by decide +kernel)
theorem k_4 : (Cond.selects "TabledExecutive$Planner" (⟨"TabledExecutive$Planner", "mostUrgent", "(I)I"⟩ : MethodName) (⟨"TabledExecutive$Planner", "mostUrgent", "(I)I"⟩ : MethodName)) ∈ zG := zG_of 4 (by decide +kernel) (by decide +kernel)
theorem k_5 : (Cond.selects "TabledExecutive$Planner" (⟨"TabledExecutive$Planner", "missesWindow", "(II)Z"⟩ : MethodName) (⟨"TabledExecutive$Planner", "missesWindow", "(II)Z"⟩ : MethodName)) ∈ zG := zG_of 5 (by decide +kernel) (by decide +kernel)
theorem k_6 : (Cond.selects "TabledExecutive" (⟨"TabledExecutive", "startRun", "(I)V"⟩ : MethodName) (⟨"TabledExecutive", "startRun", "(I)V"⟩ : MethodName)) ∈ zG := zG_of 6 (by decide +kernel) (by decide +kernel)
theorem k_7 : (Cond.selects "TabledExecutive" (⟨"TabledExecutive", "needRun", "()V"⟩ : MethodName) (⟨"TabledExecutive", "needRun", "()V"⟩ : MethodName)) ∈ zG := zG_of 7 (by decide +kernel) (by decide +kernel)
theorem k_8 : (Cond.selects "TabledExecutive" (⟨"TabledExecutive", "runTick", "()I"⟩ : MethodName) (⟨"TabledExecutive", "runTick", "()I"⟩ : MethodName)) ∈ zG := zG_of 8 (by decide +kernel) (by decide +kernel)
theorem k_9 : (Cond.selects "TabledExecutive" (⟨"TabledExecutive", "serve", "(LTabledExecutive$Task;)I"⟩ : MethodName) (⟨"TabledExecutive", "serve", "(LTabledExecutive$Task;)I"⟩ : MethodName)) ∈ zG := zG_of 9 (by decide +kernel) (by decide +kernel)
theorem k_10 : (Cond.selects "TabledExecutiveModel" (⟨"TabledExecutiveModel", "refused", "(I)Z"⟩ : MethodName) (⟨"TabledExecutiveModel", "refused", "(I)Z"⟩ : MethodName)) ∈ zG := zG_of 10 (by decide +kernel) (by decide +kernel)
theorem k_11 : (Cond.selects "TabledExecutiveModel" (⟨"TabledExecutiveModel", "whole", "()I"⟩ : MethodName) (⟨"TabledExecutiveModel", "whole", "()I"⟩ : MethodName)) ∈ zG := zG_of 11 (by decide +kernel) (by decide +kernel)
theorem k_12 : (Cond.selects "TabledExecutiveModel" (⟨"TabledExecutiveModel", "greatestOffset", "()I"⟩ : MethodName) (⟨"TabledExecutiveModel", "greatestOffset", "()I"⟩ : MethodName)) ∈ zG := zG_of 12 (by decide +kernel) (by decide +kernel)
theorem k_13 : (Cond.selects "TabledExecutiveModel" (⟨"TabledExecutiveModel", "imagine", "(II)Z"⟩ : MethodName) (⟨"TabledExecutiveModel", "imagine", "(II)Z"⟩ : MethodName)) ∈ zG := zG_of 13 (by decide +kernel) (by decide +kernel)
theorem k_14 : (Cond.selects "TabledExecutiveModel" (⟨"TabledExecutiveModel", "isReleased", "(II)Z"⟩ : MethodName) (⟨"TabledExecutiveModel", "isReleased", "(II)Z"⟩ : MethodName)) ∈ zG := zG_of 14 (by decide +kernel) (by decide +kernel)
theorem k_15 : (Cond.selects "TabledExecutiveModel" (⟨"TabledExecutiveModel", "chosen", "()I"⟩ : MethodName) (⟨"TabledExecutiveModel", "chosen", "()I"⟩ : MethodName)) ∈ zG := zG_of 15 (by decide +kernel) (by decide +kernel)
theorem k_16 : (Cond.selects "TabledExecutiveModel" (⟨"TabledExecutiveModel", "isGood", "()Z"⟩ : MethodName) (⟨"TabledExecutiveModel", "isGood", "()Z"⟩ : MethodName)) ∈ zG := zG_of 16 (by decide +kernel) (by decide +kernel)
theorem k_17 : (Cond.selects "TabledExecutiveModel" (⟨"TabledExecutiveModel", "covering", "(I)I"⟩ : MethodName) (⟨"TabledExecutiveModel", "covering", "(I)I"⟩ : MethodName)) ∈ zG := zG_of 17 (by decide +kernel) (by decide +kernel)
theorem k_18 : (Cond.selects "TabledExecutiveModel" (⟨"TabledExecutiveModel", "isServed", "(II)Z"⟩ : MethodName) (⟨"TabledExecutiveModel", "isServed", "(II)Z"⟩ : MethodName)) ∈ zG := zG_of 18 (by decide +kernel) (by decide +kernel)
theorem k_19 : (Cond.selects "TabledExecutiveModel" (⟨"TabledExecutiveModel", "at", "(I)I"⟩ : MethodName) (⟨"TabledExecutiveModel", "at", "(I)I"⟩ : MethodName)) ∈ zG := zG_of 19 (by decide +kernel) (by decide +kernel)
theorem k_20 : (Cond.selects "TabledExecutiveModel" (⟨"TabledExecutiveModel", "one", "()I"⟩ : MethodName) (⟨"TabledExecutiveModel", "one", "()I"⟩ : MethodName)) ∈ zG := zG_of 20 (by decide +kernel) (by decide +kernel)
theorem k_21 : (Cond.selects "TabledExecutiveModel" (⟨"TabledExecutiveModel", "release", "(I)V"⟩ : MethodName) (⟨"TabledExecutiveModel", "release", "(I)V"⟩ : MethodName)) ∈ zG := zG_of 21 (by decide +kernel) (by decide +kernel)
theorem k_22 : (Cond.selects "TabledExecutiveModel" (⟨"TabledExecutiveModel", "instruct", "(I)I"⟩ : MethodName) (⟨"TabledExecutiveModel", "instruct", "(I)I"⟩ : MethodName)) ∈ zG := zG_of 22 (by decide +kernel) (by decide +kernel)
theorem k_23 : (Jvm.Cond.initialized "TabledExecutiveLaw") ∈ zG := zG_of 23 (by decide +kernel) (by decide +kernel)
theorem k_24 : (Jvm.Cond.initialized "TabledExecutive") ∈ zG := zG_of 24 (by decide +kernel) (by decide +kernel)
theorem k_25 : (Jvm.Cond.initialized "TabledExecutive$TaskList") ∈ zG := zG_of 25 (by decide +kernel) (by decide +kernel)
theorem k_26 : (Jvm.Cond.initialized "TabledExecutive$Task") ∈ zG := zG_of 26 (by decide +kernel) (by decide +kernel)
theorem k_27 : (Jvm.Cond.initialized "TabledExecutive$Job") ∈ zG := zG_of 27 (by decide +kernel) (by decide +kernel)
theorem k_28 : (Jvm.Cond.initialized "TabledExecutive$Table") ∈ zG := zG_of 28 (by decide +kernel) (by decide +kernel)
theorem k_29 : (Jvm.Cond.initialized "TabledExecutive$Planner") ∈ zG := zG_of 29 (by decide +kernel) (by decide +kernel)
theorem k_30 : (Jvm.Cond.initialized "TabledExecutive$Machine") ∈ zG := zG_of 30 (by decide +kernel) (by decide +kernel)
theorem k_31 : (Jvm.Cond.initialized "TabledExecutiveModel") ∈ zG := zG_of 31 (by decide +kernel) (by decide +kernel)
theorem k_33 : (Jvm.Cond.initialized "java/lang/Exception") ∈ zG := zG_of 33 (by decide +kernel) (by decide +kernel)
theorem k_34 : (Jvm.Cond.initialized "java/lang/RuntimeException") ∈ zG := zG_of 34 (by decide +kernel) (by decide +kernel)
theorem k_35 : (Jvm.Cond.initialized "java/lang/IllegalStateException") ∈ zG := zG_of 35 (by decide +kernel) (by decide +kernel)
theorem k_36 : (Jvm.Cond.initialized "java/lang/IndexOutOfBoundsException") ∈ zG := zG_of 36 (by decide +kernel) (by decide +kernel)
theorem k_37 : (Jvm.Cond.initialized "java/lang/IllegalArgumentException") ∈ zG := zG_of 37 (by decide +kernel) (by decide +kernel)
theorem k_38 : (Jvm.Cond.initialized "java/util/Arrays") ∈ zG := zG_of 38 (by decide +kernel) (by decide +kernel)
theorem k_39 : (Jvm.Cond.initialized "java/lang/Math") ∈ zG := zG_of 39 (by decide +kernel) (by decide +kernel)
theorem k_40 : (Jvm.Cond.classLink "TabledExecutiveLaw" (8 : Nat) "TabledExecutive") ∈ zG := zG_of 40 (by decide +kernel) (by decide +kernel)
theorem k_41 : (Jvm.Cond.instantiable "TabledExecutive" (8 : Nat)) ∈ zG := zG_of 41 (by decide +kernel) (by decide +kernel)
theorem k_42 : (Jvm.Cond.methodLink "TabledExecutiveLaw" (64 : Nat) ({ cls := "TabledExecutive", name := "<init>", desc := "()V" } : Jvm.MethodName)) ∈ zG := zG_of 42 (by decide +kernel) (by decide +kernel)
theorem k_43 : (Jvm.Cond.instanceMethod ({ cls := "TabledExecutive", name := "<init>", desc := "()V" } : Jvm.MethodName)) ∈ zG := zG_of 43 (by decide +kernel) (by decide +kernel)
set_option maxRecDepth 20000 in
theorem k_44 : (Jvm.Cond.code ({ cls := "TabledExecutive", name := "<init>", desc := "()V" } : Jvm.MethodName) prog_1_method_1_code (1 : Nat) (Option.none : Option Jvm.ClassFile.FieldType)) ∈ zG := zG_of 44 rfl rfl
theorem k_45 : (Jvm.Cond.methodLink "TabledExecutive" (1 : Nat) ({ cls := "java/lang/Object", name := "<init>", desc := "()V" } : Jvm.MethodName)) ∈ zG := zG_of 45 (by decide +kernel) (by decide +kernel)
theorem k_46 : (Jvm.Cond.instanceMethod ({ cls := "java/lang/Object", name := "<init>", desc := "()V" } : Jvm.MethodName)) ∈ zG := zG_of 46 (by decide +kernel) (by decide +kernel)
set_option maxRecDepth 20000 in
theorem k_47 : (Jvm.Cond.code ({ cls := "java/lang/Object", name := "<init>", desc := "()V" } : Jvm.MethodName) object_method_1_code (1 : Nat) (Option.none : Option Jvm.ClassFile.FieldType)) ∈ zG := zG_of 47 rfl rfl
theorem k_48 : (Jvm.Cond.classLink "TabledExecutive" (7 : Nat) "TabledExecutive$TaskList") ∈ zG := zG_of 48 (by decide +kernel) (by decide +kernel)
theorem k_49 : (Jvm.Cond.instantiable "TabledExecutive$TaskList" (2 : Nat)) ∈ zG := zG_of 49 (by decide +kernel) (by decide +kernel)
theorem k_50 : (Jvm.Cond.methodLink "TabledExecutive" (9 : Nat) ({ cls := "TabledExecutive$TaskList", name := "<init>", desc := "()V" } : Jvm.MethodName)) ∈ zG := zG_of 50 (by decide +kernel) (by decide +kernel)
theorem k_51 : (Jvm.Cond.instanceMethod ({ cls := "TabledExecutive$TaskList", name := "<init>", desc := "()V" } : Jvm.MethodName)) ∈ zG := zG_of 51 (by decide +kernel) (by decide +kernel)
set_option maxRecDepth 20000 in
theorem k_52 : (Jvm.Cond.code ({ cls := "TabledExecutive$TaskList", name := "<init>", desc := "()V" } : Jvm.MethodName) prog_7_method_1_code (2 : Nat) (Option.none : Option Jvm.ClassFile.FieldType)) ∈ zG := zG_of 52 rfl rfl
theorem k_53 : (Jvm.Cond.methodLink "TabledExecutive$TaskList" (3 : Nat) ({ cls := "java/lang/Object", name := "<init>", desc := "()V" } : Jvm.MethodName)) ∈ zG := zG_of 53 (by decide +kernel) (by decide +kernel)
theorem k_54 : (Jvm.Cond.classLink "TabledExecutive$TaskList" (9 : Nat) "TabledExecutive$Task") ∈ zG := zG_of 54 (by decide +kernel) (by decide +kernel)
theorem k_56 : (Jvm.Cond.instantiable "TabledExecutive$Task" (7 : Nat)) ∈ zG := zG_of 56 (by decide +kernel) (by decide +kernel)
theorem k_58 : (Jvm.Cond.instanceMethod ({ cls := "TabledExecutive$Task", name := "<init>", desc := "()V" } : Jvm.MethodName)) ∈ zG := zG_of 58 (by decide +kernel) (by decide +kernel)
set_option maxRecDepth 20000 in
theorem k_59 : (Jvm.Cond.code ({ cls := "TabledExecutive$Task", name := "<init>", desc := "()V" } : Jvm.MethodName) prog_6_method_1_code (1 : Nat) (Option.none : Option Jvm.ClassFile.FieldType)) ∈ zG := zG_of 59 rfl rfl
theorem k_60 : (Jvm.Cond.methodLink "TabledExecutive$Task" (3 : Nat) ({ cls := "java/lang/Object", name := "<init>", desc := "()V" } : Jvm.MethodName)) ∈ zG := zG_of 60 (by decide +kernel) (by decide +kernel)
theorem k_61 : (Jvm.Cond.classLink "TabledExecutive$Task" (15 : Nat) "TabledExecutive$Job") ∈ zG := zG_of 61 (by decide +kernel) (by decide +kernel)
theorem k_62 : (Jvm.Cond.instantiable "TabledExecutive$Job" (5 : Nat)) ∈ zG := zG_of 62 (by decide +kernel) (by decide +kernel)
theorem k_64 : (Jvm.Cond.instanceMethod ({ cls := "TabledExecutive$Job", name := "<init>", desc := "()V" } : Jvm.MethodName)) ∈ zG := zG_of 64 (by decide +kernel) (by decide +kernel)
set_option maxRecDepth 20000 in
theorem k_65 : (Jvm.Cond.code ({ cls := "TabledExecutive$Job", name := "<init>", desc := "()V" } : Jvm.MethodName) prog_2_method_1_code (1 : Nat) (Option.none : Option Jvm.ClassFile.FieldType)) ∈ zG := zG_of 65 rfl rfl
theorem k_66 : (Jvm.Cond.methodLink "TabledExecutive$Job" (3 : Nat) ({ cls := "java/lang/Object", name := "<init>", desc := "()V" } : Jvm.MethodName)) ∈ zG := zG_of 66 (by decide +kernel) (by decide +kernel)
theorem k_67 : (Jvm.Cond.fieldLink "TabledExecutive$Job" (9 : Nat) "TabledExecutive$Job" "registers" "[I") ∈ zG := zG_of 67 (by decide +kernel) (by decide +kernel)
theorem k_68 : (Jvm.Cond.fieldLink "TabledExecutive$Machine" (28 : Nat) "TabledExecutive$Job" "registers" "[I") ∈ zG := zG_of 68 (by decide +kernel) (by decide +kernel)
theorem k_69 : (Jvm.Cond.fieldLink "TabledExecutive$Machine" (18 : Nat) "TabledExecutive$Job" "place" "I") ∈ zG := zG_of 69 (by decide +kernel) (by decide +kernel)
theorem k_70 : (Jvm.Cond.fieldLink "TabledExecutive$Job" (21 : Nat) "TabledExecutive$Job" "place" "I") ∈ zG := zG_of 70 (by decide +kernel) (by decide +kernel)
theorem k_71 : (Jvm.Cond.fieldLink "TabledExecutive$Job" (25 : Nat) "TabledExecutive$Job" "had" "I") ∈ zG := zG_of 71 (by decide +kernel) (by decide +kernel)
theorem k_72 : (Jvm.Cond.fieldLink "TabledExecutive" (189 : Nat) "TabledExecutive$Job" "had" "I") ∈ zG := zG_of 72 (by decide +kernel) (by decide +kernel)
theorem k_73 : (Jvm.Cond.fieldLink "TabledExecutive$Job" (28 : Nat) "TabledExecutive$Job" "released" "I") ∈ zG := zG_of 73 (by decide +kernel) (by decide +kernel)
theorem k_74 : (Jvm.Cond.fieldLink "TabledExecutive$Task" (39 : Nat) "TabledExecutive$Job" "released" "I") ∈ zG := zG_of 74 (by decide +kernel) (by decide +kernel)
theorem k_75 : (Jvm.Cond.fieldLink "TabledExecutive$Job" (31 : Nat) "TabledExecutive$Job" "open" "Z") ∈ zG := zG_of 75 (by decide +kernel) (by decide +kernel)
theorem k_76 : (Jvm.Cond.fieldLink "TabledExecutive$Task" (29 : Nat) "TabledExecutive$Job" "open" "Z") ∈ zG := zG_of 76 (by decide +kernel) (by decide +kernel)
theorem k_77 : (Jvm.Cond.fieldLink "TabledExecutive" (176 : Nat) "TabledExecutive$Job" "open" "Z") ∈ zG := zG_of 77 (by decide +kernel) (by decide +kernel)
theorem k_78 : (Jvm.Cond.laysFinal "TabledExecutive$Job" "TabledExecutive$Job" "registers" "[I") ∈ zG := zG_of 78 (by decide +kernel) (by decide +kernel)
theorem k_80 : (Jvm.Cond.lays "TabledExecutive$Job" "TabledExecutive$Job" "place" "I") ∈ zG := zG_of 80 (by decide +kernel) (by decide +kernel)
theorem k_82 : (Jvm.Cond.lays "TabledExecutive$Job" "TabledExecutive$Job" "had" "I") ∈ zG := zG_of 82 (by decide +kernel) (by decide +kernel)
theorem k_84 : (Jvm.Cond.lays "TabledExecutive$Job" "TabledExecutive$Job" "released" "I") ∈ zG := zG_of 84 (by decide +kernel) (by decide +kernel)
theorem k_86 : (Jvm.Cond.lays "TabledExecutive$Job" "TabledExecutive$Job" "open" "Z") ∈ zG := zG_of 86 (by decide +kernel) (by decide +kernel)
theorem k_89 : (Jvm.Cond.arrayClass Jvm.ClassFile.FieldType.int) ∈ zG := zG_of 89 (by decide +kernel) (by decide +kernel)
theorem k_90 : (Jvm.Cond.fieldLink "TabledExecutive$Task" (9 : Nat) "TabledExecutive$Task" "period" "I") ∈ zG := zG_of 90 (by decide +kernel) (by decide +kernel)
theorem k_91 : (Jvm.Cond.fieldLink "TabledExecutive$TaskList" (22 : Nat) "TabledExecutive$Task" "period" "I") ∈ zG := zG_of 91 (by decide +kernel) (by decide +kernel)
theorem k_92 : (Jvm.Cond.fieldLink "TabledExecutive$TaskList" (25 : Nat) "TabledExecutive$Task" "work" "I") ∈ zG := zG_of 92 (by decide +kernel) (by decide +kernel)
theorem k_93 : (Jvm.Cond.fieldLink "TabledExecutive$Planner" (59 : Nat) "TabledExecutive$Task" "work" "I") ∈ zG := zG_of 93 (by decide +kernel) (by decide +kernel)
theorem k_94 : (Jvm.Cond.fieldLink "TabledExecutive$Task" (55 : Nat) "TabledExecutive$Task" "work" "I") ∈ zG := zG_of 94 (by decide +kernel) (by decide +kernel)
theorem k_95 : (Jvm.Cond.fieldLink "TabledExecutive" (192 : Nat) "TabledExecutive$Task" "work" "I") ∈ zG := zG_of 95 (by decide +kernel) (by decide +kernel)
theorem k_96 : (Jvm.Cond.fieldLink "TabledExecutive$TaskList" (28 : Nat) "TabledExecutive$Task" "deadline" "I") ∈ zG := zG_of 96 (by decide +kernel) (by decide +kernel)
theorem k_97 : (Jvm.Cond.fieldLink "TabledExecutive$Planner" (62 : Nat) "TabledExecutive$Task" "deadline" "I") ∈ zG := zG_of 97 (by decide +kernel) (by decide +kernel)
theorem k_98 : (Jvm.Cond.fieldLink "TabledExecutive$Task" (48 : Nat) "TabledExecutive$Task" "deadline" "I") ∈ zG := zG_of 98 (by decide +kernel) (by decide +kernel)
theorem k_99 : (Jvm.Cond.fieldLink "TabledExecutive$Task" (26 : Nat) "TabledExecutive$Task" "offset" "I") ∈ zG := zG_of 99 (by decide +kernel) (by decide +kernel)
theorem k_100 : (Jvm.Cond.fieldLink "TabledExecutive$TaskList" (31 : Nat) "TabledExecutive$Task" "offset" "I") ∈ zG := zG_of 100 (by decide +kernel) (by decide +kernel)
theorem k_101 : (Jvm.Cond.fieldLink "TabledExecutive$TaskList" (34 : Nat) "TabledExecutive$Task" "firstPlace" "I") ∈ zG := zG_of 101 (by decide +kernel) (by decide +kernel)
theorem k_102 : (Jvm.Cond.fieldLink "TabledExecutive" (89 : Nat) "TabledExecutive$Task" "firstPlace" "I") ∈ zG := zG_of 102 (by decide +kernel) (by decide +kernel)
theorem k_103 : (Jvm.Cond.fieldLink "TabledExecutive$Task" (18 : Nat) "TabledExecutive$Task" "job" "LTabledExecutive$Job;") ∈ zG := zG_of 103 (by decide +kernel) (by decide +kernel)
theorem k_104 : (Jvm.Cond.fieldLink "TabledExecutive$TaskList" (57 : Nat) "TabledExecutive$Task" "job" "LTabledExecutive$Job;") ∈ zG := zG_of 104 (by decide +kernel) (by decide +kernel)
theorem k_105 : (Jvm.Cond.fieldLink "TabledExecutive" (172 : Nat) "TabledExecutive$Task" "job" "LTabledExecutive$Job;") ∈ zG := zG_of 105 (by decide +kernel) (by decide +kernel)
theorem k_106 : (Jvm.Cond.fieldLink "TabledExecutive$Task" (22 : Nat) "TabledExecutive$Task" "counts" "[I") ∈ zG := zG_of 106 (by decide +kernel) (by decide +kernel)
theorem k_107 : (Jvm.Cond.fieldLink "TabledExecutive" (142 : Nat) "TabledExecutive$Task" "counts" "[I") ∈ zG := zG_of 107 (by decide +kernel) (by decide +kernel)
theorem k_108 : (Jvm.Cond.lays "TabledExecutive$Task" "TabledExecutive$Task" "period" "I") ∈ zG := zG_of 108 (by decide +kernel) (by decide +kernel)
theorem k_110 : (Jvm.Cond.lays "TabledExecutive$Task" "TabledExecutive$Task" "work" "I") ∈ zG := zG_of 110 (by decide +kernel) (by decide +kernel)
theorem k_112 : (Jvm.Cond.lays "TabledExecutive$Task" "TabledExecutive$Task" "deadline" "I") ∈ zG := zG_of 112 (by decide +kernel) (by decide +kernel)
theorem k_114 : (Jvm.Cond.lays "TabledExecutive$Task" "TabledExecutive$Task" "offset" "I") ∈ zG := zG_of 114 (by decide +kernel) (by decide +kernel)
theorem k_116 : (Jvm.Cond.lays "TabledExecutive$Task" "TabledExecutive$Task" "firstPlace" "I") ∈ zG := zG_of 116 (by decide +kernel) (by decide +kernel)
theorem k_118 : (Jvm.Cond.laysFinal "TabledExecutive$Task" "TabledExecutive$Task" "job" "LTabledExecutive$Job;") ∈ zG := zG_of 118 (by decide +kernel) (by decide +kernel)
theorem k_120 : (Jvm.Cond.laysFinal "TabledExecutive$Task" "TabledExecutive$Task" "counts" "[I") ∈ zG := zG_of 120 (by decide +kernel) (by decide +kernel)
theorem k_123 : (Jvm.Cond.fieldLink "TabledExecutive$TaskList" (11 : Nat) "TabledExecutive$TaskList" "rows" "[LTabledExecutive$Task;") ∈ zG := zG_of 123 (by decide +kernel) (by decide +kernel)
theorem k_124 : (Jvm.Cond.fieldLink "TabledExecutive$Planner" (49 : Nat) "TabledExecutive$TaskList" "rows" "[LTabledExecutive$Task;") ∈ zG := zG_of 124 (by decide +kernel) (by decide +kernel)
theorem k_125 : (Jvm.Cond.fieldLink "TabledExecutive" (85 : Nat) "TabledExecutive$TaskList" "rows" "[LTabledExecutive$Task;") ∈ zG := zG_of 125 (by decide +kernel) (by decide +kernel)
theorem k_126 : (Jvm.Cond.fieldLink "TabledExecutive$TaskList" (18 : Nat) "TabledExecutive$TaskList" "size" "I") ∈ zG := zG_of 126 (by decide +kernel) (by decide +kernel)
theorem k_127 : (Jvm.Cond.fieldLink "TabledExecutive$Planner" (38 : Nat) "TabledExecutive$TaskList" "size" "I") ∈ zG := zG_of 127 (by decide +kernel) (by decide +kernel)
theorem k_128 : (Jvm.Cond.fieldLink "TabledExecutive" (62 : Nat) "TabledExecutive$TaskList" "size" "I") ∈ zG := zG_of 128 (by decide +kernel) (by decide +kernel)
theorem k_129 : (Jvm.Cond.laysFinal "TabledExecutive$TaskList" "TabledExecutive$TaskList" "rows" "[LTabledExecutive$Task;") ∈ zG := zG_of 129 (by decide +kernel) (by decide +kernel)
theorem k_131 : (Jvm.Cond.lays "TabledExecutive$TaskList" "TabledExecutive$TaskList" "size" "I") ∈ zG := zG_of 131 (by decide +kernel) (by decide +kernel)
theorem k_134 : (Jvm.Cond.classLink "TabledExecutive" (16 : Nat) "TabledExecutive$Table") ∈ zG := zG_of 134 (by decide +kernel) (by decide +kernel)
theorem k_135 : (Jvm.Cond.instantiable "TabledExecutive$Table" (4 : Nat)) ∈ zG := zG_of 135 (by decide +kernel) (by decide +kernel)
theorem k_137 : (Jvm.Cond.instanceMethod ({ cls := "TabledExecutive$Table", name := "<init>", desc := "()V" } : Jvm.MethodName)) ∈ zG := zG_of 137 (by decide +kernel) (by decide +kernel)
set_option maxRecDepth 20000 in
theorem k_138 : (Jvm.Cond.code ({ cls := "TabledExecutive$Table", name := "<init>", desc := "()V" } : Jvm.MethodName) prog_5_method_1_code (1 : Nat) (Option.none : Option Jvm.ClassFile.FieldType)) ∈ zG := zG_of 138 rfl rfl
theorem k_139 : (Jvm.Cond.methodLink "TabledExecutive$Table" (3 : Nat) ({ cls := "java/lang/Object", name := "<init>", desc := "()V" } : Jvm.MethodName)) ∈ zG := zG_of 139 (by decide +kernel) (by decide +kernel)
theorem k_140 : (Jvm.Cond.fieldLink "TabledExecutive$Table" (9 : Nat) "TabledExecutive$Table" "starts" "[I") ∈ zG := zG_of 140 (by decide +kernel) (by decide +kernel)
theorem k_141 : (Jvm.Cond.fieldLink "TabledExecutive$Table" (15 : Nat) "TabledExecutive$Table" "lengths" "[I") ∈ zG := zG_of 141 (by decide +kernel) (by decide +kernel)
theorem k_142 : (Jvm.Cond.fieldLink "TabledExecutive$Table" (18 : Nat) "TabledExecutive$Table" "slotTasks" "[I") ∈ zG := zG_of 142 (by decide +kernel) (by decide +kernel)
theorem k_143 : (Jvm.Cond.fieldLink "TabledExecutive$Table" (21 : Nat) "TabledExecutive$Table" "size" "I") ∈ zG := zG_of 143 (by decide +kernel) (by decide +kernel)
theorem k_144 : (Jvm.Cond.fieldLink "TabledExecutive" (94 : Nat) "TabledExecutive$Table" "size" "I") ∈ zG := zG_of 144 (by decide +kernel) (by decide +kernel)
theorem k_145 : (Jvm.Cond.laysFinal "TabledExecutive$Table" "TabledExecutive$Table" "starts" "[I") ∈ zG := zG_of 145 (by decide +kernel) (by decide +kernel)
theorem k_147 : (Jvm.Cond.laysFinal "TabledExecutive$Table" "TabledExecutive$Table" "lengths" "[I") ∈ zG := zG_of 147 (by decide +kernel) (by decide +kernel)
theorem k_149 : (Jvm.Cond.laysFinal "TabledExecutive$Table" "TabledExecutive$Table" "slotTasks" "[I") ∈ zG := zG_of 149 (by decide +kernel) (by decide +kernel)
theorem k_151 : (Jvm.Cond.lays "TabledExecutive$Table" "TabledExecutive$Table" "size" "I") ∈ zG := zG_of 151 (by decide +kernel) (by decide +kernel)
theorem k_154 : (Jvm.Cond.classLink "TabledExecutive" (23 : Nat) "TabledExecutive$Planner") ∈ zG := zG_of 154 (by decide +kernel) (by decide +kernel)
theorem k_155 : (Jvm.Cond.instantiable "TabledExecutive$Planner" (2 : Nat)) ∈ zG := zG_of 155 (by decide +kernel) (by decide +kernel)
theorem k_157 : (Jvm.Cond.instanceMethod ({ cls := "TabledExecutive$Planner", name := "<init>", desc := "()V" } : Jvm.MethodName)) ∈ zG := zG_of 157 (by decide +kernel) (by decide +kernel)
set_option maxRecDepth 20000 in
theorem k_158 : (Jvm.Cond.code ({ cls := "TabledExecutive$Planner", name := "<init>", desc := "()V" } : Jvm.MethodName) prog_4_method_1_code (1 : Nat) (Option.none : Option Jvm.ClassFile.FieldType)) ∈ zG := zG_of 158 rfl rfl
theorem k_159 : (Jvm.Cond.methodLink "TabledExecutive$Planner" (3 : Nat) ({ cls := "java/lang/Object", name := "<init>", desc := "()V" } : Jvm.MethodName)) ∈ zG := zG_of 159 (by decide +kernel) (by decide +kernel)
theorem k_160 : (Jvm.Cond.fieldLink "TabledExecutive$Planner" (9 : Nat) "TabledExecutive$Planner" "wanted" "[I") ∈ zG := zG_of 160 (by decide +kernel) (by decide +kernel)
theorem k_161 : (Jvm.Cond.fieldLink "TabledExecutive$Planner" (15 : Nat) "TabledExecutive$Planner" "windowEnds" "[I") ∈ zG := zG_of 161 (by decide +kernel) (by decide +kernel)
theorem k_162 : (Jvm.Cond.laysFinal "TabledExecutive$Planner" "TabledExecutive$Planner" "wanted" "[I") ∈ zG := zG_of 162 (by decide +kernel) (by decide +kernel)
theorem k_164 : (Jvm.Cond.laysFinal "TabledExecutive$Planner" "TabledExecutive$Planner" "windowEnds" "[I") ∈ zG := zG_of 164 (by decide +kernel) (by decide +kernel)
theorem k_167 : (Jvm.Cond.classLink "TabledExecutive" (30 : Nat) "TabledExecutive$Machine") ∈ zG := zG_of 167 (by decide +kernel) (by decide +kernel)
theorem k_168 : (Jvm.Cond.instantiable "TabledExecutive$Machine" (2 : Nat)) ∈ zG := zG_of 168 (by decide +kernel) (by decide +kernel)
theorem k_170 : (Jvm.Cond.instanceMethod ({ cls := "TabledExecutive$Machine", name := "<init>", desc := "()V" } : Jvm.MethodName)) ∈ zG := zG_of 170 (by decide +kernel) (by decide +kernel)
set_option maxRecDepth 20000 in
theorem k_171 : (Jvm.Cond.code ({ cls := "TabledExecutive$Machine", name := "<init>", desc := "()V" } : Jvm.MethodName) prog_3_method_1_code (1 : Nat) (Option.none : Option Jvm.ClassFile.FieldType)) ∈ zG := zG_of 171 rfl rfl
theorem k_172 : (Jvm.Cond.methodLink "TabledExecutive$Machine" (3 : Nat) ({ cls := "java/lang/Object", name := "<init>", desc := "()V" } : Jvm.MethodName)) ∈ zG := zG_of 172 (by decide +kernel) (by decide +kernel)
theorem k_173 : (Jvm.Cond.fieldLink "TabledExecutive$Machine" (9 : Nat) "TabledExecutive$Machine" "code" "[I") ∈ zG := zG_of 173 (by decide +kernel) (by decide +kernel)
theorem k_174 : (Jvm.Cond.fieldLink "TabledExecutive" (59 : Nat) "TabledExecutive$Machine" "code" "[I") ∈ zG := zG_of 174 (by decide +kernel) (by decide +kernel)
theorem k_175 : (Jvm.Cond.fieldLink "TabledExecutive$Machine" (15 : Nat) "TabledExecutive$Machine" "words" "[I") ∈ zG := zG_of 175 (by decide +kernel) (by decide +kernel)
theorem k_176 : (Jvm.Cond.fieldLink "TabledExecutive" (145 : Nat) "TabledExecutive$Machine" "words" "[I") ∈ zG := zG_of 176 (by decide +kernel) (by decide +kernel)
theorem k_177 : (Jvm.Cond.laysFinal "TabledExecutive$Machine" "TabledExecutive$Machine" "code" "[I") ∈ zG := zG_of 177 (by decide +kernel) (by decide +kernel)
theorem k_179 : (Jvm.Cond.laysFinal "TabledExecutive$Machine" "TabledExecutive$Machine" "words" "[I") ∈ zG := zG_of 179 (by decide +kernel) (by decide +kernel)
theorem k_182 : (Jvm.Cond.fieldLink "TabledExecutive" (10 : Nat) "TabledExecutive" "tasks" "LTabledExecutive$TaskList;") ∈ zG := zG_of 182 (by decide +kernel) (by decide +kernel)
theorem k_183 : (Jvm.Cond.fieldLink "TabledExecutive" (19 : Nat) "TabledExecutive" "table" "LTabledExecutive$Table;") ∈ zG := zG_of 183 (by decide +kernel) (by decide +kernel)
theorem k_184 : (Jvm.Cond.fieldLink "TabledExecutive" (26 : Nat) "TabledExecutive" "planner" "LTabledExecutive$Planner;") ∈ zG := zG_of 184 (by decide +kernel) (by decide +kernel)
theorem k_185 : (Jvm.Cond.fieldLink "TabledExecutive" (33 : Nat) "TabledExecutive" "machine" "LTabledExecutive$Machine;") ∈ zG := zG_of 185 (by decide +kernel) (by decide +kernel)
theorem k_186 : (Jvm.Cond.fieldLink "TabledExecutive" (37 : Nat) "TabledExecutive" "owners" "[I") ∈ zG := zG_of 186 (by decide +kernel) (by decide +kernel)
theorem k_187 : (Jvm.Cond.fieldLink "TabledExecutive" (41 : Nat) "TabledExecutive" "running" "Z") ∈ zG := zG_of 187 (by decide +kernel) (by decide +kernel)
theorem k_188 : (Jvm.Cond.fieldLink "TabledExecutive" (45 : Nat) "TabledExecutive" "runRound" "I") ∈ zG := zG_of 188 (by decide +kernel) (by decide +kernel)
theorem k_189 : (Jvm.Cond.fieldLink "TabledExecutive" (49 : Nat) "TabledExecutive" "now" "I") ∈ zG := zG_of 189 (by decide +kernel) (by decide +kernel)
theorem k_190 : (Jvm.Cond.laysFinal "TabledExecutive" "TabledExecutive" "tasks" "LTabledExecutive$TaskList;") ∈ zG := zG_of 190 (by decide +kernel) (by decide +kernel)
theorem k_192 : (Jvm.Cond.laysFinal "TabledExecutive" "TabledExecutive" "table" "LTabledExecutive$Table;") ∈ zG := zG_of 192 (by decide +kernel) (by decide +kernel)
theorem k_194 : (Jvm.Cond.laysFinal "TabledExecutive" "TabledExecutive" "planner" "LTabledExecutive$Planner;") ∈ zG := zG_of 194 (by decide +kernel) (by decide +kernel)
theorem k_196 : (Jvm.Cond.laysFinal "TabledExecutive" "TabledExecutive" "machine" "LTabledExecutive$Machine;") ∈ zG := zG_of 196 (by decide +kernel) (by decide +kernel)
theorem k_198 : (Jvm.Cond.laysFinal "TabledExecutive" "TabledExecutive" "owners" "[I") ∈ zG := zG_of 198 (by decide +kernel) (by decide +kernel)
theorem k_200 : (Jvm.Cond.lays "TabledExecutive" "TabledExecutive" "running" "Z") ∈ zG := zG_of 200 (by decide +kernel) (by decide +kernel)
theorem k_202 : (Jvm.Cond.lays "TabledExecutive" "TabledExecutive" "runRound" "I") ∈ zG := zG_of 202 (by decide +kernel) (by decide +kernel)
theorem k_204 : (Jvm.Cond.lays "TabledExecutive" "TabledExecutive" "now" "I") ∈ zG := zG_of 204 (by decide +kernel) (by decide +kernel)
theorem k_207 : (Jvm.Cond.methodLink "TabledExecutiveLaw" (88 : Nat) ({ cls := "TabledExecutive", name := "round", desc := "()I" } : Jvm.MethodName)) ∈ zG := zG_of 207 (by decide +kernel) (by decide +kernel)
theorem k_208 : (Jvm.Cond.instanceMethod ({ cls := "TabledExecutive", name := "round", desc := "()I" } : Jvm.MethodName)) ∈ zG := zG_of 208 (by decide +kernel) (by decide +kernel)
theorem k_209 : (Jvm.Cond.selects "TabledExecutive" ({ cls := "TabledExecutive", name := "round", desc := "()I" } : Jvm.MethodName) ({ cls := "TabledExecutive", name := "round", desc := "()I" } : Jvm.MethodName)) ∈ zG := zG_of 209 (by decide +kernel) (by decide +kernel)
set_option maxRecDepth 20000 in
theorem k_210 : (Jvm.Cond.code ({ cls := "TabledExecutive", name := "round", desc := "()I" } : Jvm.MethodName) prog_1_method_6_code (1 : Nat) (Option.some Jvm.ClassFile.FieldType.int)) ∈ zG := zG_of 210 rfl rfl
theorem k_211 : (Jvm.Cond.methodLink "TabledExecutive" (95 : Nat) ({ cls := "TabledExecutive$TaskList", name := "commonRound", desc := "()I" } : Jvm.MethodName)) ∈ zG := zG_of 211 (by decide +kernel) (by decide +kernel)
theorem k_212 : (Jvm.Cond.instanceMethod ({ cls := "TabledExecutive$TaskList", name := "commonRound", desc := "()I" } : Jvm.MethodName)) ∈ zG := zG_of 212 (by decide +kernel) (by decide +kernel)
theorem k_213 : (Jvm.Cond.selects "TabledExecutive$TaskList" ({ cls := "TabledExecutive$TaskList", name := "commonRound", desc := "()I" } : Jvm.MethodName) ({ cls := "TabledExecutive$TaskList", name := "commonRound", desc := "()I" } : Jvm.MethodName)) ∈ zG := zG_of 213 (by decide +kernel) (by decide +kernel)
set_option maxRecDepth 20000 in
theorem k_214 : (Jvm.Cond.code ({ cls := "TabledExecutive$TaskList", name := "commonRound", desc := "()I" } : Jvm.MethodName) prog_7_method_3_code (2 : Nat) (Option.some Jvm.ClassFile.FieldType.int)) ∈ zG := zG_of 214 rfl rfl
theorem k_215 : (Jvm.Cond.methodLink "TabledExecutive$TaskList" (40 : Nat) ({ cls := "TabledExecutive$TaskList", name := "isCommonMultiple", desc := "(I)Z" } : Jvm.MethodName)) ∈ zG := zG_of 215 (by decide +kernel) (by decide +kernel)
theorem k_217 : (Jvm.Cond.instanceMethod ({ cls := "TabledExecutive$TaskList", name := "isCommonMultiple", desc := "(I)Z" } : Jvm.MethodName)) ∈ zG := zG_of 217 (by decide +kernel) (by decide +kernel)
set_option maxRecDepth 20000 in
theorem k_218 : (Jvm.Cond.code ({ cls := "TabledExecutive$TaskList", name := "isCommonMultiple", desc := "(I)Z" } : Jvm.MethodName) prog_7_method_4_code (3 : Nat) (Option.some Jvm.ClassFile.FieldType.boolean)) ∈ zG := zG_of 218 rfl rfl
theorem k_219 : (Jvm.Cond.methodLink "TabledExecutiveLaw" (103 : Nat) ({ cls := "TabledExecutive", name := "slots", desc := "()I" } : Jvm.MethodName)) ∈ zG := zG_of 219 (by decide +kernel) (by decide +kernel)
theorem k_220 : (Jvm.Cond.instanceMethod ({ cls := "TabledExecutive", name := "slots", desc := "()I" } : Jvm.MethodName)) ∈ zG := zG_of 220 (by decide +kernel) (by decide +kernel)
theorem k_221 : (Jvm.Cond.selects "TabledExecutive" ({ cls := "TabledExecutive", name := "slots", desc := "()I" } : Jvm.MethodName) ({ cls := "TabledExecutive", name := "slots", desc := "()I" } : Jvm.MethodName)) ∈ zG := zG_of 221 (by decide +kernel) (by decide +kernel)
set_option maxRecDepth 20000 in
theorem k_222 : (Jvm.Cond.code ({ cls := "TabledExecutive", name := "slots", desc := "()I" } : Jvm.MethodName) prog_1_method_10_code (1 : Nat) (Option.some Jvm.ClassFile.FieldType.int)) ∈ zG := zG_of 222 rfl rfl
theorem k_223 : (Jvm.Cond.methodLink "TabledExecutiveLaw" (124 : Nat) ({ cls := "TabledExecutive", name := "time", desc := "()I" } : Jvm.MethodName)) ∈ zG := zG_of 223 (by decide +kernel) (by decide +kernel)
theorem k_224 : (Jvm.Cond.instanceMethod ({ cls := "TabledExecutive", name := "time", desc := "()I" } : Jvm.MethodName)) ∈ zG := zG_of 224 (by decide +kernel) (by decide +kernel)
theorem k_225 : (Jvm.Cond.selects "TabledExecutive" ({ cls := "TabledExecutive", name := "time", desc := "()I" } : Jvm.MethodName) ({ cls := "TabledExecutive", name := "time", desc := "()I" } : Jvm.MethodName)) ∈ zG := zG_of 225 (by decide +kernel) (by decide +kernel)
set_option maxRecDepth 20000 in
theorem k_226 : (Jvm.Cond.code ({ cls := "TabledExecutive", name := "time", desc := "()I" } : Jvm.MethodName) prog_1_method_16_code (1 : Nat) (Option.some Jvm.ClassFile.FieldType.int)) ∈ zG := zG_of 226 rfl rfl
theorem k_227 : (Jvm.Cond.methodLink "TabledExecutiveLaw" (68 : Nat) ({ cls := "TabledExecutiveLaw", name := "load", desc := "(LTabledExecutive;II)I" } : Jvm.MethodName)) ∈ zG := zG_of 227 (by decide +kernel) (by decide +kernel)
theorem k_228 : (Jvm.Cond.static ({ cls := "TabledExecutiveLaw", name := "load", desc := "(LTabledExecutive;II)I" } : Jvm.MethodName)) ∈ zG := zG_of 228 (by decide +kernel) (by decide +kernel)
set_option maxRecDepth 20000 in
theorem k_229 : (Jvm.Cond.codeWith ({ cls := "TabledExecutiveLaw", name := "load", desc := "(LTabledExecutive;II)I" } : Jvm.MethodName) method_3_code (4 : Nat) (Option.some Jvm.ClassFile.FieldType.int) [((0 : Nat), (6 : Nat), (9 : Nat), (13 : Nat)), ((0 : Nat), (6 : Nat), (12 : Nat), (15 : Nat))]) ∈ zG := zG_of 229 rfl rfl
theorem k_230 : (Jvm.Cond.classLink "TabledExecutiveLaw" (13 : Nat) "java/lang/IllegalStateException") ∈ zG := zG_of 230 (by decide +kernel) (by decide +kernel)
theorem k_231 : (Jvm.Cond.classLink "TabledExecutiveLaw" (15 : Nat) "java/lang/IndexOutOfBoundsException") ∈ zG := zG_of 231 (by decide +kernel) (by decide +kernel)
theorem k_232 : (Jvm.Cond.methodLink "TabledExecutiveLaw" (7 : Nat) ({ cls := "TabledExecutive", name := "load", desc := "(II)V" } : Jvm.MethodName)) ∈ zG := zG_of 232 (by decide +kernel) (by decide +kernel)
theorem k_233 : (Jvm.Cond.instanceMethod ({ cls := "TabledExecutive", name := "load", desc := "(II)V" } : Jvm.MethodName)) ∈ zG := zG_of 233 (by decide +kernel) (by decide +kernel)
theorem k_234 : (Jvm.Cond.selects "TabledExecutive" ({ cls := "TabledExecutive", name := "load", desc := "(II)V" } : Jvm.MethodName) ({ cls := "TabledExecutive", name := "load", desc := "(II)V" } : Jvm.MethodName)) ∈ zG := zG_of 234 (by decide +kernel) (by decide +kernel)
set_option maxRecDepth 20000 in
theorem k_235 : (Jvm.Cond.code ({ cls := "TabledExecutive", name := "load", desc := "(II)V" } : Jvm.MethodName) prog_1_method_2_code (3 : Nat) (Option.none : Option Jvm.ClassFile.FieldType)) ∈ zG := zG_of 235 rfl rfl
theorem k_236 : (Jvm.Cond.methodLink "TabledExecutive" (52 : Nat) ({ cls := "TabledExecutive", name := "needEdit", desc := "()V" } : Jvm.MethodName)) ∈ zG := zG_of 236 (by decide +kernel) (by decide +kernel)
theorem k_238 : (Jvm.Cond.instanceMethod ({ cls := "TabledExecutive", name := "needEdit", desc := "()V" } : Jvm.MethodName)) ∈ zG := zG_of 238 (by decide +kernel) (by decide +kernel)
set_option maxRecDepth 20000 in
theorem k_239 : (Jvm.Cond.code ({ cls := "TabledExecutive", name := "needEdit", desc := "()V" } : Jvm.MethodName) prog_1_method_19_code (1 : Nat) (Option.none : Option Jvm.ClassFile.FieldType)) ∈ zG := zG_of 239 rfl rfl
theorem k_240 : (Jvm.Cond.classLink "TabledExecutive" (65 : Nat) "java/lang/IllegalStateException") ∈ zG := zG_of 240 (by decide +kernel) (by decide +kernel)
theorem k_307 : (Jvm.Cond.arrayClass Jvm.ClassFile.FieldType.byte) ∈ zG := zG_of 307 (by decide +kernel) (by decide +kernel)
theorem k_308 : (Jvm.Cond.methodLink "TabledExecutive" (55 : Nat) ({ cls := "TabledExecutive", name := "needIndex", desc := "(II)V" } : Jvm.MethodName)) ∈ zG := zG_of 308 (by decide +kernel) (by decide +kernel)
theorem k_309 : (Jvm.Cond.static ({ cls := "TabledExecutive", name := "needIndex", desc := "(II)V" } : Jvm.MethodName)) ∈ zG := zG_of 309 (by decide +kernel) (by decide +kernel)
set_option maxRecDepth 20000 in
theorem k_310 : (Jvm.Cond.code ({ cls := "TabledExecutive", name := "needIndex", desc := "(II)V" } : Jvm.MethodName) prog_1_method_21_code (2 : Nat) (Option.none : Option Jvm.ClassFile.FieldType)) ∈ zG := zG_of 310 rfl rfl
theorem k_311 : (Jvm.Cond.classLink "TabledExecutive" (152 : Nat) "java/lang/IndexOutOfBoundsException") ∈ zG := zG_of 311 (by decide +kernel) (by decide +kernel)
theorem k_327 : (Jvm.Cond.methodLink "TabledExecutiveLaw" (77 : Nat) ({ cls := "TabledExecutiveLaw", name := "task", desc := "(LTabledExecutive;IIII[J)I" } : Jvm.MethodName)) ∈ zG := zG_of 327 (by decide +kernel) (by decide +kernel)
theorem k_328 : (Jvm.Cond.static ({ cls := "TabledExecutiveLaw", name := "task", desc := "(LTabledExecutive;IIII[J)I" } : Jvm.MethodName)) ∈ zG := zG_of 328 (by decide +kernel) (by decide +kernel)
set_option maxRecDepth 20000 in
theorem k_329 : (Jvm.Cond.codeWith ({ cls := "TabledExecutiveLaw", name := "task", desc := "(LTabledExecutive;IIII[J)I" } : Jvm.MethodName) method_4_code (7 : Nat) (Option.some Jvm.ClassFile.FieldType.int) [((0 : Nat), (14 : Nat), (17 : Nat), (13 : Nat)), ((0 : Nat), (14 : Nat), (21 : Nat), (21 : Nat))]) ∈ zG := zG_of 329 rfl rfl
theorem k_330 : (Jvm.Cond.classLink "TabledExecutiveLaw" (21 : Nat) "java/lang/IllegalArgumentException") ∈ zG := zG_of 330 (by decide +kernel) (by decide +kernel)
theorem k_331 : (Jvm.Cond.methodLink "TabledExecutiveLaw" (17 : Nat) ({ cls := "TabledExecutive", name := "task", desc := "(IIII)I" } : Jvm.MethodName)) ∈ zG := zG_of 331 (by decide +kernel) (by decide +kernel)
theorem k_332 : (Jvm.Cond.instanceMethod ({ cls := "TabledExecutive", name := "task", desc := "(IIII)I" } : Jvm.MethodName)) ∈ zG := zG_of 332 (by decide +kernel) (by decide +kernel)
theorem k_333 : (Jvm.Cond.selects "TabledExecutive" ({ cls := "TabledExecutive", name := "task", desc := "(IIII)I" } : Jvm.MethodName) ({ cls := "TabledExecutive", name := "task", desc := "(IIII)I" } : Jvm.MethodName)) ∈ zG := zG_of 333 (by decide +kernel) (by decide +kernel)
set_option maxRecDepth 20000 in
theorem k_334 : (Jvm.Cond.code ({ cls := "TabledExecutive", name := "task", desc := "(IIII)I" } : Jvm.MethodName) prog_1_method_3_code (5 : Nat) (Option.some Jvm.ClassFile.FieldType.int)) ∈ zG := zG_of 334 rfl rfl
theorem k_336 : (Jvm.Cond.methodLink "TabledExecutive" (72 : Nat) ({ cls := "TabledExecutive", name := "isTask", desc := "(IIII)Z" } : Jvm.MethodName)) ∈ zG := zG_of 336 (by decide +kernel) (by decide +kernel)
theorem k_337 : (Jvm.Cond.static ({ cls := "TabledExecutive", name := "isTask", desc := "(IIII)Z" } : Jvm.MethodName)) ∈ zG := zG_of 337 (by decide +kernel) (by decide +kernel)
set_option maxRecDepth 20000 in
theorem k_338 : (Jvm.Cond.code ({ cls := "TabledExecutive", name := "isTask", desc := "(IIII)Z" } : Jvm.MethodName) prog_1_method_22_code (4 : Nat) (Option.some Jvm.ClassFile.FieldType.boolean)) ∈ zG := zG_of 338 rfl rfl
theorem k_339 : (Jvm.Cond.classLink "TabledExecutive" (76 : Nat) "java/lang/IllegalArgumentException") ∈ zG := zG_of 339 (by decide +kernel) (by decide +kernel)
theorem k_355 : (Jvm.Cond.methodLink "TabledExecutive" (81 : Nat) ({ cls := "TabledExecutive$TaskList", name := "append", desc := "(IIII)I" } : Jvm.MethodName)) ∈ zG := zG_of 355 (by decide +kernel) (by decide +kernel)
theorem k_356 : (Jvm.Cond.instanceMethod ({ cls := "TabledExecutive$TaskList", name := "append", desc := "(IIII)I" } : Jvm.MethodName)) ∈ zG := zG_of 356 (by decide +kernel) (by decide +kernel)
theorem k_357 : (Jvm.Cond.selects "TabledExecutive$TaskList" ({ cls := "TabledExecutive$TaskList", name := "append", desc := "(IIII)I" } : Jvm.MethodName) ({ cls := "TabledExecutive$TaskList", name := "append", desc := "(IIII)I" } : Jvm.MethodName)) ∈ zG := zG_of 357 (by decide +kernel) (by decide +kernel)
set_option maxRecDepth 20000 in
theorem k_358 : (Jvm.Cond.code ({ cls := "TabledExecutive$TaskList", name := "append", desc := "(IIII)I" } : Jvm.MethodName) prog_7_method_2_code (6 : Nat) (Option.some Jvm.ClassFile.FieldType.int)) ∈ zG := zG_of 358 rfl rfl
theorem k_359 : (Jvm.Cond.methodLink "TabledExecutive$TaskList" (37 : Nat) ({ cls := "TabledExecutive$Task", name := "forgetRun", desc := "()V" } : Jvm.MethodName)) ∈ zG := zG_of 359 (by decide +kernel) (by decide +kernel)
theorem k_360 : (Jvm.Cond.instanceMethod ({ cls := "TabledExecutive$Task", name := "forgetRun", desc := "()V" } : Jvm.MethodName)) ∈ zG := zG_of 360 (by decide +kernel) (by decide +kernel)
theorem k_361 : (Jvm.Cond.selects "TabledExecutive$Task" ({ cls := "TabledExecutive$Task", name := "forgetRun", desc := "()V" } : Jvm.MethodName) ({ cls := "TabledExecutive$Task", name := "forgetRun", desc := "()V" } : Jvm.MethodName)) ∈ zG := zG_of 361 (by decide +kernel) (by decide +kernel)
set_option maxRecDepth 20000 in
theorem k_362 : (Jvm.Cond.code ({ cls := "TabledExecutive$Task", name := "forgetRun", desc := "()V" } : Jvm.MethodName) prog_6_method_3_code (1 : Nat) (Option.none : Option Jvm.ClassFile.FieldType)) ∈ zG := zG_of 362 rfl rfl
theorem k_363 : (Jvm.Cond.methodLink "TabledExecutive$Task" (33 : Nat) ({ cls := "java/util/Arrays", name := "fill", desc := "([II)V" } : Jvm.MethodName)) ∈ zG := zG_of 363 (by decide +kernel) (by decide +kernel)
theorem k_364 : (Jvm.Cond.static ({ cls := "java/util/Arrays", name := "fill", desc := "([II)V" } : Jvm.MethodName)) ∈ zG := zG_of 364 (by decide +kernel) (by decide +kernel)
set_option maxRecDepth 20000 in
theorem k_365 : (Jvm.Cond.code ({ cls := "java/util/Arrays", name := "fill", desc := "([II)V" } : Jvm.MethodName) prog_18_method_103_code (4 : Nat) (Option.none : Option Jvm.ClassFile.FieldType)) ∈ zG := zG_of 365 rfl rfl
theorem k_366 : (Jvm.Cond.methodLink "TabledExecutiveLaw" (81 : Nat) ({ cls := "TabledExecutiveLaw", name := "entry", desc := "(LTabledExecutive;II)I" } : Jvm.MethodName)) ∈ zG := zG_of 366 (by decide +kernel) (by decide +kernel)
theorem k_367 : (Jvm.Cond.static ({ cls := "TabledExecutiveLaw", name := "entry", desc := "(LTabledExecutive;II)I" } : Jvm.MethodName)) ∈ zG := zG_of 367 (by decide +kernel) (by decide +kernel)
set_option maxRecDepth 20000 in
theorem k_368 : (Jvm.Cond.codeWith ({ cls := "TabledExecutiveLaw", name := "entry", desc := "(LTabledExecutive;II)I" } : Jvm.MethodName) method_5_code (4 : Nat) (Option.some Jvm.ClassFile.FieldType.int) [((0 : Nat), (6 : Nat), (9 : Nat), (13 : Nat)), ((0 : Nat), (6 : Nat), (12 : Nat), (15 : Nat))]) ∈ zG := zG_of 368 rfl rfl
theorem k_369 : (Jvm.Cond.methodLink "TabledExecutiveLaw" (23 : Nat) ({ cls := "TabledExecutive", name := "entry", desc := "(II)V" } : Jvm.MethodName)) ∈ zG := zG_of 369 (by decide +kernel) (by decide +kernel)
theorem k_370 : (Jvm.Cond.instanceMethod ({ cls := "TabledExecutive", name := "entry", desc := "(II)V" } : Jvm.MethodName)) ∈ zG := zG_of 370 (by decide +kernel) (by decide +kernel)
theorem k_371 : (Jvm.Cond.selects "TabledExecutive" ({ cls := "TabledExecutive", name := "entry", desc := "(II)V" } : Jvm.MethodName) ({ cls := "TabledExecutive", name := "entry", desc := "(II)V" } : Jvm.MethodName)) ∈ zG := zG_of 371 (by decide +kernel) (by decide +kernel)
set_option maxRecDepth 20000 in
theorem k_372 : (Jvm.Cond.code ({ cls := "TabledExecutive", name := "entry", desc := "(II)V" } : Jvm.MethodName) prog_1_method_4_code (3 : Nat) (Option.none : Option Jvm.ClassFile.FieldType)) ∈ zG := zG_of 372 rfl rfl
theorem k_373 : (Jvm.Cond.methodLink "TabledExecutiveLaw" (84 : Nat) ({ cls := "TabledExecutiveLaw", name := "clear", desc := "(LTabledExecutive;)I" } : Jvm.MethodName)) ∈ zG := zG_of 373 (by decide +kernel) (by decide +kernel)
theorem k_374 : (Jvm.Cond.static ({ cls := "TabledExecutiveLaw", name := "clear", desc := "(LTabledExecutive;)I" } : Jvm.MethodName)) ∈ zG := zG_of 374 (by decide +kernel) (by decide +kernel)
set_option maxRecDepth 20000 in
theorem k_375 : (Jvm.Cond.codeWith ({ cls := "TabledExecutiveLaw", name := "clear", desc := "(LTabledExecutive;)I" } : Jvm.MethodName) method_6_code (2 : Nat) (Option.some Jvm.ClassFile.FieldType.int) [((0 : Nat), (4 : Nat), (7 : Nat), (13 : Nat))]) ∈ zG := zG_of 375 rfl rfl
theorem k_376 : (Jvm.Cond.methodLink "TabledExecutiveLaw" (26 : Nat) ({ cls := "TabledExecutive", name := "clear", desc := "()V" } : Jvm.MethodName)) ∈ zG := zG_of 376 (by decide +kernel) (by decide +kernel)
theorem k_377 : (Jvm.Cond.instanceMethod ({ cls := "TabledExecutive", name := "clear", desc := "()V" } : Jvm.MethodName)) ∈ zG := zG_of 377 (by decide +kernel) (by decide +kernel)
theorem k_378 : (Jvm.Cond.selects "TabledExecutive" ({ cls := "TabledExecutive", name := "clear", desc := "()V" } : Jvm.MethodName) ({ cls := "TabledExecutive", name := "clear", desc := "()V" } : Jvm.MethodName)) ∈ zG := zG_of 378 (by decide +kernel) (by decide +kernel)
set_option maxRecDepth 20000 in
theorem k_379 : (Jvm.Cond.code ({ cls := "TabledExecutive", name := "clear", desc := "()V" } : Jvm.MethodName) prog_1_method_5_code (1 : Nat) (Option.none : Option Jvm.ClassFile.FieldType)) ∈ zG := zG_of 379 rfl rfl
theorem k_380 : (Jvm.Cond.methodLink "TabledExecutiveLaw" (92 : Nat) ({ cls := "TabledExecutiveLaw", name := "synthesize", desc := "(LTabledExecutive;[J)I" } : Jvm.MethodName)) ∈ zG := zG_of 380 (by decide +kernel) (by decide +kernel)
theorem k_381 : (Jvm.Cond.static ({ cls := "TabledExecutiveLaw", name := "synthesize", desc := "(LTabledExecutive;[J)I" } : Jvm.MethodName)) ∈ zG := zG_of 381 (by decide +kernel) (by decide +kernel)
set_option maxRecDepth 20000 in
theorem k_382 : (Jvm.Cond.codeWith ({ cls := "TabledExecutiveLaw", name := "synthesize", desc := "(LTabledExecutive;[J)I" } : Jvm.MethodName) method_7_code (3 : Nat) (Option.some Jvm.ClassFile.FieldType.int) [((0 : Nat), (8 : Nat), (11 : Nat), (13 : Nat))]) ∈ zG := zG_of 382 rfl rfl
theorem k_383 : (Jvm.Cond.methodLink "TabledExecutiveLaw" (29 : Nat) ({ cls := "TabledExecutive", name := "synthesize", desc := "()I" } : Jvm.MethodName)) ∈ zG := zG_of 383 (by decide +kernel) (by decide +kernel)
theorem k_384 : (Jvm.Cond.instanceMethod ({ cls := "TabledExecutive", name := "synthesize", desc := "()I" } : Jvm.MethodName)) ∈ zG := zG_of 384 (by decide +kernel) (by decide +kernel)
theorem k_385 : (Jvm.Cond.selects "TabledExecutive" ({ cls := "TabledExecutive", name := "synthesize", desc := "()I" } : Jvm.MethodName) ({ cls := "TabledExecutive", name := "synthesize", desc := "()I" } : Jvm.MethodName)) ∈ zG := zG_of 385 (by decide +kernel) (by decide +kernel)
set_option maxRecDepth 20000 in
theorem k_386 : (Jvm.Cond.code ({ cls := "TabledExecutive", name := "synthesize", desc := "()I" } : Jvm.MethodName) prog_1_method_7_code (2 : Nat) (Option.some Jvm.ClassFile.FieldType.int)) ∈ zG := zG_of 386 rfl rfl
theorem k_387 : (Jvm.Cond.methodLink "TabledExecutive" (99 : Nat) ({ cls := "TabledExecutive$Planner", name := "plan", desc := "(LTabledExecutive$TaskList;[II)Z" } : Jvm.MethodName)) ∈ zG := zG_of 387 (by decide +kernel) (by decide +kernel)
theorem k_388 : (Jvm.Cond.instanceMethod ({ cls := "TabledExecutive$Planner", name := "plan", desc := "(LTabledExecutive$TaskList;[II)Z" } : Jvm.MethodName)) ∈ zG := zG_of 388 (by decide +kernel) (by decide +kernel)
theorem k_389 : (Jvm.Cond.selects "TabledExecutive$Planner" ({ cls := "TabledExecutive$Planner", name := "plan", desc := "(LTabledExecutive$TaskList;[II)Z" } : Jvm.MethodName) ({ cls := "TabledExecutive$Planner", name := "plan", desc := "(LTabledExecutive$TaskList;[II)Z" } : Jvm.MethodName)) ∈ zG := zG_of 389 (by decide +kernel) (by decide +kernel)
set_option maxRecDepth 20000 in
theorem k_390 : (Jvm.Cond.code ({ cls := "TabledExecutive$Planner", name := "plan", desc := "(LTabledExecutive$TaskList;[II)Z" } : Jvm.MethodName) prog_4_method_2_code (7 : Nat) (Option.some Jvm.ClassFile.FieldType.boolean)) ∈ zG := zG_of 390 rfl rfl
theorem k_391 : (Jvm.Cond.methodLink "TabledExecutive$Planner" (18 : Nat) ({ cls := "TabledExecutive$TaskList", name := "workInRound", desc := "(I)I" } : Jvm.MethodName)) ∈ zG := zG_of 391 (by decide +kernel) (by decide +kernel)
theorem k_392 : (Jvm.Cond.instanceMethod ({ cls := "TabledExecutive$TaskList", name := "workInRound", desc := "(I)I" } : Jvm.MethodName)) ∈ zG := zG_of 392 (by decide +kernel) (by decide +kernel)
theorem k_393 : (Jvm.Cond.selects "TabledExecutive$TaskList" ({ cls := "TabledExecutive$TaskList", name := "workInRound", desc := "(I)I" } : Jvm.MethodName) ({ cls := "TabledExecutive$TaskList", name := "workInRound", desc := "(I)I" } : Jvm.MethodName)) ∈ zG := zG_of 393 (by decide +kernel) (by decide +kernel)
set_option maxRecDepth 20000 in
theorem k_394 : (Jvm.Cond.code ({ cls := "TabledExecutive$TaskList", name := "workInRound", desc := "(I)I" } : Jvm.MethodName) prog_7_method_6_code (4 : Nat) (Option.some Jvm.ClassFile.FieldType.int)) ∈ zG := zG_of 394 rfl rfl
theorem k_395 : (Jvm.Cond.methodLink "TabledExecutive$Planner" (24 : Nat) ({ cls := "java/util/Arrays", name := "fill", desc := "([II)V" } : Jvm.MethodName)) ∈ zG := zG_of 395 (by decide +kernel) (by decide +kernel)
theorem k_396 : (Jvm.Cond.methodLink "TabledExecutive$Planner" (30 : Nat) ({ cls := "TabledExecutive$TaskList", name := "greatestOffset", desc := "()I" } : Jvm.MethodName)) ∈ zG := zG_of 396 (by decide +kernel) (by decide +kernel)
theorem k_397 : (Jvm.Cond.instanceMethod ({ cls := "TabledExecutive$TaskList", name := "greatestOffset", desc := "()I" } : Jvm.MethodName)) ∈ zG := zG_of 397 (by decide +kernel) (by decide +kernel)
theorem k_398 : (Jvm.Cond.selects "TabledExecutive$TaskList" ({ cls := "TabledExecutive$TaskList", name := "greatestOffset", desc := "()I" } : Jvm.MethodName) ({ cls := "TabledExecutive$TaskList", name := "greatestOffset", desc := "()I" } : Jvm.MethodName)) ∈ zG := zG_of 398 (by decide +kernel) (by decide +kernel)
set_option maxRecDepth 20000 in
theorem k_399 : (Jvm.Cond.code ({ cls := "TabledExecutive$TaskList", name := "greatestOffset", desc := "()I" } : Jvm.MethodName) prog_7_method_5_code (3 : Nat) (Option.some Jvm.ClassFile.FieldType.int)) ∈ zG := zG_of 399 rfl rfl
theorem k_400 : (Jvm.Cond.methodLink "TabledExecutive$TaskList" (44 : Nat) ({ cls := "java/lang/Math", name := "max", desc := "(II)I" } : Jvm.MethodName)) ∈ zG := zG_of 400 (by decide +kernel) (by decide +kernel)
theorem k_401 : (Jvm.Cond.static ({ cls := "java/lang/Math", name := "max", desc := "(II)I" } : Jvm.MethodName)) ∈ zG := zG_of 401 (by decide +kernel) (by decide +kernel)
set_option maxRecDepth 20000 in
theorem k_402 : (Jvm.Cond.code ({ cls := "java/lang/Math", name := "max", desc := "(II)I" } : Jvm.MethodName) prog_14_method_65_code (2 : Nat) (Option.some Jvm.ClassFile.FieldType.int)) ∈ zG := zG_of 402 rfl rfl
theorem k_403 : (Jvm.Cond.methodLink "TabledExecutive$Planner" (34 : Nat) ({ cls := "TabledExecutive$Planner", name := "release", desc := "(LTabledExecutive$TaskList;I)V" } : Jvm.MethodName)) ∈ zG := zG_of 403 (by decide +kernel) (by decide +kernel)
theorem k_405 : (Jvm.Cond.instanceMethod ({ cls := "TabledExecutive$Planner", name := "release", desc := "(LTabledExecutive$TaskList;I)V" } : Jvm.MethodName)) ∈ zG := zG_of 405 (by decide +kernel) (by decide +kernel)
set_option maxRecDepth 20000 in
theorem k_406 : (Jvm.Cond.code ({ cls := "TabledExecutive$Planner", name := "release", desc := "(LTabledExecutive$TaskList;I)V" } : Jvm.MethodName) prog_4_method_3_code (5 : Nat) (Option.none : Option Jvm.ClassFile.FieldType)) ∈ zG := zG_of 406 rfl rfl
theorem k_407 : (Jvm.Cond.methodLink "TabledExecutive$Planner" (53 : Nat) ({ cls := "TabledExecutive$Task", name := "releasesAt", desc := "(I)Z" } : Jvm.MethodName)) ∈ zG := zG_of 407 (by decide +kernel) (by decide +kernel)
theorem k_408 : (Jvm.Cond.instanceMethod ({ cls := "TabledExecutive$Task", name := "releasesAt", desc := "(I)Z" } : Jvm.MethodName)) ∈ zG := zG_of 408 (by decide +kernel) (by decide +kernel)
theorem k_409 : (Jvm.Cond.selects "TabledExecutive$Task" ({ cls := "TabledExecutive$Task", name := "releasesAt", desc := "(I)Z" } : Jvm.MethodName) ({ cls := "TabledExecutive$Task", name := "releasesAt", desc := "(I)Z" } : Jvm.MethodName)) ∈ zG := zG_of 409 (by decide +kernel) (by decide +kernel)
set_option maxRecDepth 20000 in
theorem k_410 : (Jvm.Cond.code ({ cls := "TabledExecutive$Task", name := "releasesAt", desc := "(I)Z" } : Jvm.MethodName) prog_6_method_2_code (2 : Nat) (Option.some Jvm.ClassFile.FieldType.boolean)) ∈ zG := zG_of 410 rfl rfl
theorem k_411 : (Jvm.Cond.methodLink "TabledExecutive$Planner" (42 : Nat) ({ cls := "TabledExecutive$Planner", name := "mostUrgent", desc := "(I)I" } : Jvm.MethodName)) ∈ zG := zG_of 411 (by decide +kernel) (by decide +kernel)
theorem k_413 : (Jvm.Cond.instanceMethod ({ cls := "TabledExecutive$Planner", name := "mostUrgent", desc := "(I)I" } : Jvm.MethodName)) ∈ zG := zG_of 413 (by decide +kernel) (by decide +kernel)
set_option maxRecDepth 20000 in
theorem k_414 : (Jvm.Cond.code ({ cls := "TabledExecutive$Planner", name := "mostUrgent", desc := "(I)I" } : Jvm.MethodName) prog_4_method_4_code (4 : Nat) (Option.some Jvm.ClassFile.FieldType.int)) ∈ zG := zG_of 414 rfl rfl
theorem k_415 : (Jvm.Cond.methodLink "TabledExecutive$Planner" (45 : Nat) ({ cls := "TabledExecutive$Planner", name := "missesWindow", desc := "(II)Z" } : Jvm.MethodName)) ∈ zG := zG_of 415 (by decide +kernel) (by decide +kernel)
theorem k_417 : (Jvm.Cond.instanceMethod ({ cls := "TabledExecutive$Planner", name := "missesWindow", desc := "(II)Z" } : Jvm.MethodName)) ∈ zG := zG_of 417 (by decide +kernel) (by decide +kernel)
set_option maxRecDepth 20000 in
theorem k_418 : (Jvm.Cond.code ({ cls := "TabledExecutive$Planner", name := "missesWindow", desc := "(II)Z" } : Jvm.MethodName) prog_4_method_5_code (4 : Nat) (Option.some Jvm.ClassFile.FieldType.boolean)) ∈ zG := zG_of 418 rfl rfl
theorem k_419 : (Jvm.Cond.methodLink "TabledExecutive" (103 : Nat) ({ cls := "TabledExecutive$Table", name := "become", desc := "([II)Z" } : Jvm.MethodName)) ∈ zG := zG_of 419 (by decide +kernel) (by decide +kernel)
theorem k_420 : (Jvm.Cond.instanceMethod ({ cls := "TabledExecutive$Table", name := "become", desc := "([II)Z" } : Jvm.MethodName)) ∈ zG := zG_of 420 (by decide +kernel) (by decide +kernel)
theorem k_421 : (Jvm.Cond.selects "TabledExecutive$Table" ({ cls := "TabledExecutive$Table", name := "become", desc := "([II)Z" } : Jvm.MethodName) ({ cls := "TabledExecutive$Table", name := "become", desc := "([II)Z" } : Jvm.MethodName)) ∈ zG := zG_of 421 (by decide +kernel) (by decide +kernel)
set_option maxRecDepth 20000 in
theorem k_422 : (Jvm.Cond.code ({ cls := "TabledExecutive$Table", name := "become", desc := "([II)Z" } : Jvm.MethodName) prog_5_method_4_code (4 : Nat) (Option.some Jvm.ClassFile.FieldType.boolean)) ∈ zG := zG_of 422 rfl rfl
theorem k_423 : (Jvm.Cond.methodLink "TabledExecutive$Table" (25 : Nat) ({ cls := "TabledExecutive$Table", name := "put", desc := "(IIII)V" } : Jvm.MethodName)) ∈ zG := zG_of 423 (by decide +kernel) (by decide +kernel)
theorem k_424 : (Jvm.Cond.instanceMethod ({ cls := "TabledExecutive$Table", name := "put", desc := "(IIII)V" } : Jvm.MethodName)) ∈ zG := zG_of 424 (by decide +kernel) (by decide +kernel)
theorem k_425 : (Jvm.Cond.selects "TabledExecutive$Table" ({ cls := "TabledExecutive$Table", name := "put", desc := "(IIII)V" } : Jvm.MethodName) ({ cls := "TabledExecutive$Table", name := "put", desc := "(IIII)V" } : Jvm.MethodName)) ∈ zG := zG_of 425 (by decide +kernel) (by decide +kernel)
set_option maxRecDepth 20000 in
theorem k_426 : (Jvm.Cond.code ({ cls := "TabledExecutive$Table", name := "put", desc := "(IIII)V" } : Jvm.MethodName) prog_5_method_3_code (5 : Nat) (Option.none : Option Jvm.ClassFile.FieldType)) ∈ zG := zG_of 426 rfl rfl
theorem k_427 : (Jvm.Cond.methodLink "TabledExecutiveLaw" (96 : Nat) ({ cls := "TabledExecutiveLaw", name := "slot", desc := "(LTabledExecutive;IIII)I" } : Jvm.MethodName)) ∈ zG := zG_of 427 (by decide +kernel) (by decide +kernel)
theorem k_428 : (Jvm.Cond.static ({ cls := "TabledExecutiveLaw", name := "slot", desc := "(LTabledExecutive;IIII)I" } : Jvm.MethodName)) ∈ zG := zG_of 428 (by decide +kernel) (by decide +kernel)
set_option maxRecDepth 20000 in
theorem k_429 : (Jvm.Cond.codeWith ({ cls := "TabledExecutiveLaw", name := "slot", desc := "(LTabledExecutive;IIII)I" } : Jvm.MethodName) method_8_code (6 : Nat) (Option.some Jvm.ClassFile.FieldType.int) [((0 : Nat), (9 : Nat), (12 : Nat), (13 : Nat)), ((0 : Nat), (9 : Nat), (16 : Nat), (15 : Nat)), ((0 : Nat), (9 : Nat), (20 : Nat), (21 : Nat))]) ∈ zG := zG_of 429 rfl rfl
theorem k_430 : (Jvm.Cond.methodLink "TabledExecutiveLaw" (33 : Nat) ({ cls := "TabledExecutive", name := "slot", desc := "(IIII)V" } : Jvm.MethodName)) ∈ zG := zG_of 430 (by decide +kernel) (by decide +kernel)
theorem k_431 : (Jvm.Cond.instanceMethod ({ cls := "TabledExecutive", name := "slot", desc := "(IIII)V" } : Jvm.MethodName)) ∈ zG := zG_of 431 (by decide +kernel) (by decide +kernel)
theorem k_432 : (Jvm.Cond.selects "TabledExecutive" ({ cls := "TabledExecutive", name := "slot", desc := "(IIII)V" } : Jvm.MethodName) ({ cls := "TabledExecutive", name := "slot", desc := "(IIII)V" } : Jvm.MethodName)) ∈ zG := zG_of 432 (by decide +kernel) (by decide +kernel)
set_option maxRecDepth 20000 in
theorem k_433 : (Jvm.Cond.code ({ cls := "TabledExecutive", name := "slot", desc := "(IIII)V" } : Jvm.MethodName) prog_1_method_8_code (5 : Nat) (Option.none : Option Jvm.ClassFile.FieldType)) ∈ zG := zG_of 433 rfl rfl
theorem k_434 : (Jvm.Cond.methodLink "TabledExecutive" (107 : Nat) ({ cls := "java/lang/Math", name := "min", desc := "(II)I" } : Jvm.MethodName)) ∈ zG := zG_of 434 (by decide +kernel) (by decide +kernel)
theorem k_435 : (Jvm.Cond.static ({ cls := "java/lang/Math", name := "min", desc := "(II)I" } : Jvm.MethodName)) ∈ zG := zG_of 435 (by decide +kernel) (by decide +kernel)
set_option maxRecDepth 20000 in
theorem k_436 : (Jvm.Cond.code ({ cls := "java/lang/Math", name := "min", desc := "(II)I" } : Jvm.MethodName) prog_14_method_69_code (2 : Nat) (Option.some Jvm.ClassFile.FieldType.int)) ∈ zG := zG_of 436 rfl rfl
theorem k_438 : (Jvm.Cond.methodLink "TabledExecutive" (115 : Nat) ({ cls := "TabledExecutive$Table", name := "put", desc := "(IIII)V" } : Jvm.MethodName)) ∈ zG := zG_of 438 (by decide +kernel) (by decide +kernel)
theorem k_439 : (Jvm.Cond.methodLink "TabledExecutiveLaw" (100 : Nat) ({ cls := "TabledExecutiveLaw", name := "drop", desc := "(LTabledExecutive;)I" } : Jvm.MethodName)) ∈ zG := zG_of 439 (by decide +kernel) (by decide +kernel)
theorem k_440 : (Jvm.Cond.static ({ cls := "TabledExecutiveLaw", name := "drop", desc := "(LTabledExecutive;)I" } : Jvm.MethodName)) ∈ zG := zG_of 440 (by decide +kernel) (by decide +kernel)
set_option maxRecDepth 20000 in
theorem k_441 : (Jvm.Cond.codeWith ({ cls := "TabledExecutiveLaw", name := "drop", desc := "(LTabledExecutive;)I" } : Jvm.MethodName) method_9_code (2 : Nat) (Option.some Jvm.ClassFile.FieldType.int) [((0 : Nat), (4 : Nat), (7 : Nat), (13 : Nat))]) ∈ zG := zG_of 441 rfl rfl
theorem k_442 : (Jvm.Cond.methodLink "TabledExecutiveLaw" (37 : Nat) ({ cls := "TabledExecutive", name := "drop", desc := "()V" } : Jvm.MethodName)) ∈ zG := zG_of 442 (by decide +kernel) (by decide +kernel)
theorem k_443 : (Jvm.Cond.instanceMethod ({ cls := "TabledExecutive", name := "drop", desc := "()V" } : Jvm.MethodName)) ∈ zG := zG_of 443 (by decide +kernel) (by decide +kernel)
theorem k_444 : (Jvm.Cond.selects "TabledExecutive" ({ cls := "TabledExecutive", name := "drop", desc := "()V" } : Jvm.MethodName) ({ cls := "TabledExecutive", name := "drop", desc := "()V" } : Jvm.MethodName)) ∈ zG := zG_of 444 (by decide +kernel) (by decide +kernel)
set_option maxRecDepth 20000 in
theorem k_445 : (Jvm.Cond.code ({ cls := "TabledExecutive", name := "drop", desc := "()V" } : Jvm.MethodName) prog_1_method_9_code (1 : Nat) (Option.none : Option Jvm.ClassFile.FieldType)) ∈ zG := zG_of 445 rfl rfl
theorem k_447 : (Jvm.Cond.methodLink "TabledExecutiveLaw" (107 : Nat) ({ cls := "TabledExecutiveLaw", name := "slotOf", desc := "(LTabledExecutive;II[J)I" } : Jvm.MethodName)) ∈ zG := zG_of 447 (by decide +kernel) (by decide +kernel)
theorem k_448 : (Jvm.Cond.static ({ cls := "TabledExecutiveLaw", name := "slotOf", desc := "(LTabledExecutive;II[J)I" } : Jvm.MethodName)) ∈ zG := zG_of 448 (by decide +kernel) (by decide +kernel)
set_option maxRecDepth 20000 in
theorem k_449 : (Jvm.Cond.codeWith ({ cls := "TabledExecutiveLaw", name := "slotOf", desc := "(LTabledExecutive;II[J)I" } : Jvm.MethodName) method_10_code (5 : Nat) (Option.some Jvm.ClassFile.FieldType.int) [((0 : Nat), (10 : Nat), (13 : Nat), (15 : Nat))]) ∈ zG := zG_of 449 rfl rfl
theorem k_450 : (Jvm.Cond.methodLink "TabledExecutiveLaw" (40 : Nat) ({ cls := "TabledExecutive", name := "slotOf", desc := "(II)I" } : Jvm.MethodName)) ∈ zG := zG_of 450 (by decide +kernel) (by decide +kernel)
theorem k_451 : (Jvm.Cond.instanceMethod ({ cls := "TabledExecutive", name := "slotOf", desc := "(II)I" } : Jvm.MethodName)) ∈ zG := zG_of 451 (by decide +kernel) (by decide +kernel)
theorem k_452 : (Jvm.Cond.selects "TabledExecutive" ({ cls := "TabledExecutive", name := "slotOf", desc := "(II)I" } : Jvm.MethodName) ({ cls := "TabledExecutive", name := "slotOf", desc := "(II)I" } : Jvm.MethodName)) ∈ zG := zG_of 452 (by decide +kernel) (by decide +kernel)
set_option maxRecDepth 20000 in
theorem k_453 : (Jvm.Cond.code ({ cls := "TabledExecutive", name := "slotOf", desc := "(II)I" } : Jvm.MethodName) prog_1_method_11_code (3 : Nat) (Option.some Jvm.ClassFile.FieldType.int)) ∈ zG := zG_of 453 rfl rfl
theorem k_454 : (Jvm.Cond.methodLink "TabledExecutive" (121 : Nat) ({ cls := "TabledExecutive$Table", name := "part", desc := "(II)I" } : Jvm.MethodName)) ∈ zG := zG_of 454 (by decide +kernel) (by decide +kernel)
theorem k_455 : (Jvm.Cond.instanceMethod ({ cls := "TabledExecutive$Table", name := "part", desc := "(II)I" } : Jvm.MethodName)) ∈ zG := zG_of 455 (by decide +kernel) (by decide +kernel)
theorem k_456 : (Jvm.Cond.selects "TabledExecutive$Table" ({ cls := "TabledExecutive$Table", name := "part", desc := "(II)I" } : Jvm.MethodName) ({ cls := "TabledExecutive$Table", name := "part", desc := "(II)I" } : Jvm.MethodName)) ∈ zG := zG_of 456 (by decide +kernel) (by decide +kernel)
set_option maxRecDepth 20000 in
theorem k_457 : (Jvm.Cond.code ({ cls := "TabledExecutive$Table", name := "part", desc := "(II)I" } : Jvm.MethodName) prog_5_method_2_code (3 : Nat) (Option.some Jvm.ClassFile.FieldType.int)) ∈ zG := zG_of 457 rfl rfl
theorem k_458 : (Jvm.Cond.methodLink "TabledExecutiveLaw" (111 : Nat) ({ cls := "TabledExecutiveLaw", name := "check", desc := "(LTabledExecutive;[J)I" } : Jvm.MethodName)) ∈ zG := zG_of 458 (by decide +kernel) (by decide +kernel)
theorem k_459 : (Jvm.Cond.static ({ cls := "TabledExecutiveLaw", name := "check", desc := "(LTabledExecutive;[J)I" } : Jvm.MethodName)) ∈ zG := zG_of 459 (by decide +kernel) (by decide +kernel)
set_option maxRecDepth 20000 in
theorem k_460 : (Jvm.Cond.codeWith ({ cls := "TabledExecutiveLaw", name := "check", desc := "(LTabledExecutive;[J)I" } : Jvm.MethodName) method_11_code (3 : Nat) (Option.some Jvm.ClassFile.FieldType.int) [((0 : Nat), (15 : Nat), (18 : Nat), (13 : Nat))]) ∈ zG := zG_of 460 rfl rfl
theorem k_461 : (Jvm.Cond.methodLink "TabledExecutiveLaw" (44 : Nat) ({ cls := "TabledExecutive", name := "check", desc := "()Z" } : Jvm.MethodName)) ∈ zG := zG_of 461 (by decide +kernel) (by decide +kernel)
theorem k_462 : (Jvm.Cond.instanceMethod ({ cls := "TabledExecutive", name := "check", desc := "()Z" } : Jvm.MethodName)) ∈ zG := zG_of 462 (by decide +kernel) (by decide +kernel)
theorem k_463 : (Jvm.Cond.selects "TabledExecutive" ({ cls := "TabledExecutive", name := "check", desc := "()Z" } : Jvm.MethodName) ({ cls := "TabledExecutive", name := "check", desc := "()Z" } : Jvm.MethodName)) ∈ zG := zG_of 463 (by decide +kernel) (by decide +kernel)
set_option maxRecDepth 20000 in
theorem k_464 : (Jvm.Cond.code ({ cls := "TabledExecutive", name := "check", desc := "()Z" } : Jvm.MethodName) prog_1_method_12_code (2 : Nat) (Option.some Jvm.ClassFile.FieldType.boolean)) ∈ zG := zG_of 464 rfl rfl
theorem k_465 : (Jvm.Cond.methodLink "TabledExecutive" (124 : Nat) ({ cls := "TabledExecutive$Table", name := "spread", desc := "([II)Z" } : Jvm.MethodName)) ∈ zG := zG_of 465 (by decide +kernel) (by decide +kernel)
theorem k_466 : (Jvm.Cond.instanceMethod ({ cls := "TabledExecutive$Table", name := "spread", desc := "([II)Z" } : Jvm.MethodName)) ∈ zG := zG_of 466 (by decide +kernel) (by decide +kernel)
theorem k_467 : (Jvm.Cond.selects "TabledExecutive$Table" ({ cls := "TabledExecutive$Table", name := "spread", desc := "([II)Z" } : Jvm.MethodName) ({ cls := "TabledExecutive$Table", name := "spread", desc := "([II)Z" } : Jvm.MethodName)) ∈ zG := zG_of 467 (by decide +kernel) (by decide +kernel)
set_option maxRecDepth 20000 in
theorem k_468 : (Jvm.Cond.code ({ cls := "TabledExecutive$Table", name := "spread", desc := "([II)Z" } : Jvm.MethodName) prog_5_method_5_code (5 : Nat) (Option.some Jvm.ClassFile.FieldType.boolean)) ∈ zG := zG_of 468 rfl rfl
theorem k_469 : (Jvm.Cond.methodLink "TabledExecutive$Table" (29 : Nat) ({ cls := "java/util/Arrays", name := "fill", desc := "([II)V" } : Jvm.MethodName)) ∈ zG := zG_of 469 (by decide +kernel) (by decide +kernel)
theorem k_470 : (Jvm.Cond.methodLink "TabledExecutive" (127 : Nat) ({ cls := "TabledExecutive$TaskList", name := "areServed", desc := "([II)Z" } : Jvm.MethodName)) ∈ zG := zG_of 470 (by decide +kernel) (by decide +kernel)
theorem k_471 : (Jvm.Cond.instanceMethod ({ cls := "TabledExecutive$TaskList", name := "areServed", desc := "([II)Z" } : Jvm.MethodName)) ∈ zG := zG_of 471 (by decide +kernel) (by decide +kernel)
theorem k_472 : (Jvm.Cond.selects "TabledExecutive$TaskList" ({ cls := "TabledExecutive$TaskList", name := "areServed", desc := "([II)Z" } : Jvm.MethodName) ({ cls := "TabledExecutive$TaskList", name := "areServed", desc := "([II)Z" } : Jvm.MethodName)) ∈ zG := zG_of 472 (by decide +kernel) (by decide +kernel)
set_option maxRecDepth 20000 in
theorem k_473 : (Jvm.Cond.code ({ cls := "TabledExecutive$TaskList", name := "areServed", desc := "([II)Z" } : Jvm.MethodName) prog_7_method_7_code (4 : Nat) (Option.some Jvm.ClassFile.FieldType.boolean)) ∈ zG := zG_of 473 rfl rfl
theorem k_474 : (Jvm.Cond.methodLink "TabledExecutive$TaskList" (50 : Nat) ({ cls := "TabledExecutive$Task", name := "isServed", desc := "(I[II)Z" } : Jvm.MethodName)) ∈ zG := zG_of 474 (by decide +kernel) (by decide +kernel)
theorem k_475 : (Jvm.Cond.instanceMethod ({ cls := "TabledExecutive$Task", name := "isServed", desc := "(I[II)Z" } : Jvm.MethodName)) ∈ zG := zG_of 475 (by decide +kernel) (by decide +kernel)
theorem k_476 : (Jvm.Cond.selects "TabledExecutive$Task" ({ cls := "TabledExecutive$Task", name := "isServed", desc := "(I[II)Z" } : Jvm.MethodName) ({ cls := "TabledExecutive$Task", name := "isServed", desc := "(I[II)Z" } : Jvm.MethodName)) ∈ zG := zG_of 476 (by decide +kernel) (by decide +kernel)
set_option maxRecDepth 20000 in
theorem k_477 : (Jvm.Cond.code ({ cls := "TabledExecutive$Task", name := "isServed", desc := "(I[II)Z" } : Jvm.MethodName) prog_6_method_5_code (6 : Nat) (Option.some Jvm.ClassFile.FieldType.boolean)) ∈ zG := zG_of 477 rfl rfl
theorem k_478 : (Jvm.Cond.methodLink "TabledExecutive$Task" (51 : Nat) ({ cls := "TabledExecutive$Task", name := "ticksOf", desc := "(III[II)I" } : Jvm.MethodName)) ∈ zG := zG_of 478 (by decide +kernel) (by decide +kernel)
theorem k_479 : (Jvm.Cond.static ({ cls := "TabledExecutive$Task", name := "ticksOf", desc := "(III[II)I" } : Jvm.MethodName)) ∈ zG := zG_of 479 (by decide +kernel) (by decide +kernel)
set_option maxRecDepth 20000 in
theorem k_480 : (Jvm.Cond.code ({ cls := "TabledExecutive$Task", name := "ticksOf", desc := "(III[II)I" } : Jvm.MethodName) prog_6_method_6_code (7 : Nat) (Option.some Jvm.ClassFile.FieldType.int)) ∈ zG := zG_of 480 rfl rfl
theorem k_481 : (Jvm.Cond.methodLink "TabledExecutive" (130 : Nat) ({ cls := "TabledExecutive", name := "startRun", desc := "(I)V" } : Jvm.MethodName)) ∈ zG := zG_of 481 (by decide +kernel) (by decide +kernel)
theorem k_483 : (Jvm.Cond.instanceMethod ({ cls := "TabledExecutive", name := "startRun", desc := "(I)V" } : Jvm.MethodName)) ∈ zG := zG_of 483 (by decide +kernel) (by decide +kernel)
set_option maxRecDepth 20000 in
theorem k_484 : (Jvm.Cond.code ({ cls := "TabledExecutive", name := "startRun", desc := "(I)V" } : Jvm.MethodName) prog_1_method_23_code (3 : Nat) (Option.none : Option Jvm.ClassFile.FieldType)) ∈ zG := zG_of 484 rfl rfl
theorem k_485 : (Jvm.Cond.methodLink "TabledExecutive" (157 : Nat) ({ cls := "java/util/Arrays", name := "fill", desc := "([II)V" } : Jvm.MethodName)) ∈ zG := zG_of 485 (by decide +kernel) (by decide +kernel)
theorem k_486 : (Jvm.Cond.methodLink "TabledExecutive" (163 : Nat) ({ cls := "TabledExecutive$Task", name := "forgetRun", desc := "()V" } : Jvm.MethodName)) ∈ zG := zG_of 486 (by decide +kernel) (by decide +kernel)
theorem k_487 : (Jvm.Cond.methodLink "TabledExecutiveLaw" (114 : Nat) ({ cls := "TabledExecutiveLaw", name := "stop", desc := "(LTabledExecutive;)I" } : Jvm.MethodName)) ∈ zG := zG_of 487 (by decide +kernel) (by decide +kernel)
theorem k_488 : (Jvm.Cond.static ({ cls := "TabledExecutiveLaw", name := "stop", desc := "(LTabledExecutive;)I" } : Jvm.MethodName)) ∈ zG := zG_of 488 (by decide +kernel) (by decide +kernel)
set_option maxRecDepth 20000 in
theorem k_489 : (Jvm.Cond.codeWith ({ cls := "TabledExecutiveLaw", name := "stop", desc := "(LTabledExecutive;)I" } : Jvm.MethodName) method_12_code (2 : Nat) (Option.some Jvm.ClassFile.FieldType.int) [((0 : Nat), (4 : Nat), (7 : Nat), (13 : Nat))]) ∈ zG := zG_of 489 rfl rfl
theorem k_490 : (Jvm.Cond.methodLink "TabledExecutiveLaw" (48 : Nat) ({ cls := "TabledExecutive", name := "stop", desc := "()V" } : Jvm.MethodName)) ∈ zG := zG_of 490 (by decide +kernel) (by decide +kernel)
theorem k_491 : (Jvm.Cond.instanceMethod ({ cls := "TabledExecutive", name := "stop", desc := "()V" } : Jvm.MethodName)) ∈ zG := zG_of 491 (by decide +kernel) (by decide +kernel)
theorem k_492 : (Jvm.Cond.selects "TabledExecutive" ({ cls := "TabledExecutive", name := "stop", desc := "()V" } : Jvm.MethodName) ({ cls := "TabledExecutive", name := "stop", desc := "()V" } : Jvm.MethodName)) ∈ zG := zG_of 492 (by decide +kernel) (by decide +kernel)
set_option maxRecDepth 20000 in
theorem k_493 : (Jvm.Cond.code ({ cls := "TabledExecutive", name := "stop", desc := "()V" } : Jvm.MethodName) prog_1_method_13_code (1 : Nat) (Option.none : Option Jvm.ClassFile.FieldType)) ∈ zG := zG_of 493 rfl rfl
theorem k_494 : (Jvm.Cond.methodLink "TabledExecutive" (134 : Nat) ({ cls := "TabledExecutive", name := "needRun", desc := "()V" } : Jvm.MethodName)) ∈ zG := zG_of 494 (by decide +kernel) (by decide +kernel)
theorem k_496 : (Jvm.Cond.instanceMethod ({ cls := "TabledExecutive", name := "needRun", desc := "()V" } : Jvm.MethodName)) ∈ zG := zG_of 496 (by decide +kernel) (by decide +kernel)
set_option maxRecDepth 20000 in
theorem k_497 : (Jvm.Cond.code ({ cls := "TabledExecutive", name := "needRun", desc := "()V" } : Jvm.MethodName) prog_1_method_20_code (1 : Nat) (Option.none : Option Jvm.ClassFile.FieldType)) ∈ zG := zG_of 497 rfl rfl
theorem k_499 : (Jvm.Cond.methodLink "TabledExecutiveLaw" (117 : Nat) ({ cls := "TabledExecutiveLaw", name := "tick", desc := "(LTabledExecutive;[J)I" } : Jvm.MethodName)) ∈ zG := zG_of 499 (by decide +kernel) (by decide +kernel)
theorem k_500 : (Jvm.Cond.static ({ cls := "TabledExecutiveLaw", name := "tick", desc := "(LTabledExecutive;[J)I" } : Jvm.MethodName)) ∈ zG := zG_of 500 (by decide +kernel) (by decide +kernel)
set_option maxRecDepth 20000 in
theorem k_501 : (Jvm.Cond.codeWith ({ cls := "TabledExecutiveLaw", name := "tick", desc := "(LTabledExecutive;[J)I" } : Jvm.MethodName) method_13_code (3 : Nat) (Option.some Jvm.ClassFile.FieldType.int) [((0 : Nat), (8 : Nat), (11 : Nat), (13 : Nat))]) ∈ zG := zG_of 501 rfl rfl
theorem k_502 : (Jvm.Cond.methodLink "TabledExecutiveLaw" (51 : Nat) ({ cls := "TabledExecutive", name := "tick", desc := "()I" } : Jvm.MethodName)) ∈ zG := zG_of 502 (by decide +kernel) (by decide +kernel)
theorem k_503 : (Jvm.Cond.instanceMethod ({ cls := "TabledExecutive", name := "tick", desc := "()I" } : Jvm.MethodName)) ∈ zG := zG_of 503 (by decide +kernel) (by decide +kernel)
theorem k_504 : (Jvm.Cond.selects "TabledExecutive" ({ cls := "TabledExecutive", name := "tick", desc := "()I" } : Jvm.MethodName) ({ cls := "TabledExecutive", name := "tick", desc := "()I" } : Jvm.MethodName)) ∈ zG := zG_of 504 (by decide +kernel) (by decide +kernel)
set_option maxRecDepth 20000 in
theorem k_505 : (Jvm.Cond.code ({ cls := "TabledExecutive", name := "tick", desc := "()I" } : Jvm.MethodName) prog_1_method_14_code (1 : Nat) (Option.some Jvm.ClassFile.FieldType.int)) ∈ zG := zG_of 505 rfl rfl
theorem k_506 : (Jvm.Cond.methodLink "TabledExecutive" (137 : Nat) ({ cls := "TabledExecutive", name := "runTick", desc := "()I" } : Jvm.MethodName)) ∈ zG := zG_of 506 (by decide +kernel) (by decide +kernel)
theorem k_508 : (Jvm.Cond.instanceMethod ({ cls := "TabledExecutive", name := "runTick", desc := "()I" } : Jvm.MethodName)) ∈ zG := zG_of 508 (by decide +kernel) (by decide +kernel)
set_option maxRecDepth 20000 in
theorem k_509 : (Jvm.Cond.code ({ cls := "TabledExecutive", name := "runTick", desc := "()I" } : Jvm.MethodName) prog_1_method_24_code (3 : Nat) (Option.some Jvm.ClassFile.FieldType.int)) ∈ zG := zG_of 509 rfl rfl
theorem k_510 : (Jvm.Cond.methodLink "TabledExecutive" (166 : Nat) ({ cls := "TabledExecutive$TaskList", name := "releaseJobs", desc := "(I)V" } : Jvm.MethodName)) ∈ zG := zG_of 510 (by decide +kernel) (by decide +kernel)
theorem k_511 : (Jvm.Cond.instanceMethod ({ cls := "TabledExecutive$TaskList", name := "releaseJobs", desc := "(I)V" } : Jvm.MethodName)) ∈ zG := zG_of 511 (by decide +kernel) (by decide +kernel)
theorem k_512 : (Jvm.Cond.selects "TabledExecutive$TaskList" ({ cls := "TabledExecutive$TaskList", name := "releaseJobs", desc := "(I)V" } : Jvm.MethodName) ({ cls := "TabledExecutive$TaskList", name := "releaseJobs", desc := "(I)V" } : Jvm.MethodName)) ∈ zG := zG_of 512 (by decide +kernel) (by decide +kernel)
set_option maxRecDepth 20000 in
theorem k_513 : (Jvm.Cond.code ({ cls := "TabledExecutive$TaskList", name := "releaseJobs", desc := "(I)V" } : Jvm.MethodName) prog_7_method_8_code (3 : Nat) (Option.none : Option Jvm.ClassFile.FieldType)) ∈ zG := zG_of 513 rfl rfl
theorem k_514 : (Jvm.Cond.methodLink "TabledExecutive$TaskList" (54 : Nat) ({ cls := "TabledExecutive$Task", name := "releasesAt", desc := "(I)Z" } : Jvm.MethodName)) ∈ zG := zG_of 514 (by decide +kernel) (by decide +kernel)
theorem k_515 : (Jvm.Cond.methodLink "TabledExecutive$TaskList" (61 : Nat) ({ cls := "TabledExecutive$Job", name := "start", desc := "(II)V" } : Jvm.MethodName)) ∈ zG := zG_of 515 (by decide +kernel) (by decide +kernel)
theorem k_516 : (Jvm.Cond.instanceMethod ({ cls := "TabledExecutive$Job", name := "start", desc := "(II)V" } : Jvm.MethodName)) ∈ zG := zG_of 516 (by decide +kernel) (by decide +kernel)
theorem k_517 : (Jvm.Cond.selects "TabledExecutive$Job" ({ cls := "TabledExecutive$Job", name := "start", desc := "(II)V" } : Jvm.MethodName) ({ cls := "TabledExecutive$Job", name := "start", desc := "(II)V" } : Jvm.MethodName)) ∈ zG := zG_of 517 (by decide +kernel) (by decide +kernel)
set_option maxRecDepth 20000 in
theorem k_518 : (Jvm.Cond.code ({ cls := "TabledExecutive$Job", name := "start", desc := "(II)V" } : Jvm.MethodName) prog_2_method_2_code (3 : Nat) (Option.none : Option Jvm.ClassFile.FieldType)) ∈ zG := zG_of 518 rfl rfl
theorem k_519 : (Jvm.Cond.methodLink "TabledExecutive$Job" (15 : Nat) ({ cls := "java/util/Arrays", name := "fill", desc := "([II)V" } : Jvm.MethodName)) ∈ zG := zG_of 519 (by decide +kernel) (by decide +kernel)
theorem k_520 : (Jvm.Cond.methodLink "TabledExecutive" (169 : Nat) ({ cls := "java/lang/Math", name := "floorMod", desc := "(II)I" } : Jvm.MethodName)) ∈ zG := zG_of 520 (by decide +kernel) (by decide +kernel)
theorem k_521 : (Jvm.Cond.static ({ cls := "java/lang/Math", name := "floorMod", desc := "(II)I" } : Jvm.MethodName)) ∈ zG := zG_of 521 (by decide +kernel) (by decide +kernel)
set_option maxRecDepth 20000 in
theorem k_522 : (Jvm.Cond.code ({ cls := "java/lang/Math", name := "floorMod", desc := "(II)I" } : Jvm.MethodName) prog_14_method_50_code (3 : Nat) (Option.some Jvm.ClassFile.FieldType.int)) ∈ zG := zG_of 522 rfl rfl
theorem k_523 : (Jvm.Cond.methodLink "TabledExecutive" (181 : Nat) ({ cls := "TabledExecutive", name := "serve", desc := "(LTabledExecutive$Task;)I" } : Jvm.MethodName)) ∈ zG := zG_of 523 (by decide +kernel) (by decide +kernel)
theorem k_525 : (Jvm.Cond.instanceMethod ({ cls := "TabledExecutive", name := "serve", desc := "(LTabledExecutive$Task;)I" } : Jvm.MethodName)) ∈ zG := zG_of 525 (by decide +kernel) (by decide +kernel)
set_option maxRecDepth 20000 in
theorem k_526 : (Jvm.Cond.code ({ cls := "TabledExecutive", name := "serve", desc := "(LTabledExecutive$Task;)I" } : Jvm.MethodName) prog_1_method_25_code (4 : Nat) (Option.some Jvm.ClassFile.FieldType.int)) ∈ zG := zG_of 526 rfl rfl
theorem k_527 : (Jvm.Cond.methodLink "TabledExecutive" (185 : Nat) ({ cls := "TabledExecutive$Machine", name := "step", desc := "(LTabledExecutive$Job;)I" } : Jvm.MethodName)) ∈ zG := zG_of 527 (by decide +kernel) (by decide +kernel)
theorem k_528 : (Jvm.Cond.instanceMethod ({ cls := "TabledExecutive$Machine", name := "step", desc := "(LTabledExecutive$Job;)I" } : Jvm.MethodName)) ∈ zG := zG_of 528 (by decide +kernel) (by decide +kernel)
theorem k_529 : (Jvm.Cond.selects "TabledExecutive$Machine" ({ cls := "TabledExecutive$Machine", name := "step", desc := "(LTabledExecutive$Job;)I" } : Jvm.MethodName) ({ cls := "TabledExecutive$Machine", name := "step", desc := "(LTabledExecutive$Job;)I" } : Jvm.MethodName)) ∈ zG := zG_of 529 (by decide +kernel) (by decide +kernel)
set_option maxRecDepth 20000 in
theorem k_530 : (Jvm.Cond.code ({ cls := "TabledExecutive$Machine", name := "step", desc := "(LTabledExecutive$Job;)I" } : Jvm.MethodName) prog_3_method_2_code (7 : Nat) (Option.some Jvm.ClassFile.FieldType.int)) ∈ zG := zG_of 530 rfl rfl
theorem k_531 : (Jvm.Cond.methodLink "TabledExecutive$Machine" (24 : Nat) ({ cls := "TabledExecutive$Machine", name := "placeOf", desc := "(I)I" } : Jvm.MethodName)) ∈ zG := zG_of 531 (by decide +kernel) (by decide +kernel)
theorem k_532 : (Jvm.Cond.static ({ cls := "TabledExecutive$Machine", name := "placeOf", desc := "(I)I" } : Jvm.MethodName)) ∈ zG := zG_of 532 (by decide +kernel) (by decide +kernel)
set_option maxRecDepth 20000 in
theorem k_533 : (Jvm.Cond.code ({ cls := "TabledExecutive$Machine", name := "placeOf", desc := "(I)I" } : Jvm.MethodName) prog_3_method_4_code (1 : Nat) (Option.some Jvm.ClassFile.FieldType.int)) ∈ zG := zG_of 533 rfl rfl
theorem k_534 : (Jvm.Cond.methodLink "TabledExecutive$Machine" (31 : Nat) ({ cls := "TabledExecutive$Machine", name := "jumpIf", desc := "(ZILTabledExecutive$Job;)V" } : Jvm.MethodName)) ∈ zG := zG_of 534 (by decide +kernel) (by decide +kernel)
theorem k_535 : (Jvm.Cond.static ({ cls := "TabledExecutive$Machine", name := "jumpIf", desc := "(ZILTabledExecutive$Job;)V" } : Jvm.MethodName)) ∈ zG := zG_of 535 (by decide +kernel) (by decide +kernel)
set_option maxRecDepth 20000 in
theorem k_536 : (Jvm.Cond.code ({ cls := "TabledExecutive$Machine", name := "jumpIf", desc := "(ZILTabledExecutive$Job;)V" } : Jvm.MethodName) prog_3_method_3_code (3 : Nat) (Option.none : Option Jvm.ClassFile.FieldType)) ∈ zG := zG_of 536 rfl rfl
theorem k_537 : (Jvm.Cond.methodLink "TabledExecutive" (195 : Nat) ({ cls := "TabledExecutive$Task", name := "endJob", desc := "(II)V" } : Jvm.MethodName)) ∈ zG := zG_of 537 (by decide +kernel) (by decide +kernel)
theorem k_538 : (Jvm.Cond.instanceMethod ({ cls := "TabledExecutive$Task", name := "endJob", desc := "(II)V" } : Jvm.MethodName)) ∈ zG := zG_of 538 (by decide +kernel) (by decide +kernel)
theorem k_539 : (Jvm.Cond.selects "TabledExecutive$Task" ({ cls := "TabledExecutive$Task", name := "endJob", desc := "(II)V" } : Jvm.MethodName) ({ cls := "TabledExecutive$Task", name := "endJob", desc := "(II)V" } : Jvm.MethodName)) ∈ zG := zG_of 539 (by decide +kernel) (by decide +kernel)
set_option maxRecDepth 20000 in
theorem k_540 : (Jvm.Cond.code ({ cls := "TabledExecutive$Task", name := "endJob", desc := "(II)V" } : Jvm.MethodName) prog_6_method_4_code (3 : Nat) (Option.none : Option Jvm.ClassFile.FieldType)) ∈ zG := zG_of 540 rfl rfl
theorem k_541 : (Jvm.Cond.methodLink "TabledExecutive$Task" (42 : Nat) ({ cls := "java/lang/Math", name := "max", desc := "(II)I" } : Jvm.MethodName)) ∈ zG := zG_of 541 (by decide +kernel) (by decide +kernel)
theorem k_542 : (Jvm.Cond.methodLink "TabledExecutiveLaw" (120 : Nat) ({ cls := "TabledExecutiveLaw", name := "ticks", desc := "(LTabledExecutive;I[J)I" } : Jvm.MethodName)) ∈ zG := zG_of 542 (by decide +kernel) (by decide +kernel)
theorem k_543 : (Jvm.Cond.static ({ cls := "TabledExecutiveLaw", name := "ticks", desc := "(LTabledExecutive;I[J)I" } : Jvm.MethodName)) ∈ zG := zG_of 543 (by decide +kernel) (by decide +kernel)
set_option maxRecDepth 20000 in
theorem k_544 : (Jvm.Cond.codeWith ({ cls := "TabledExecutiveLaw", name := "ticks", desc := "(LTabledExecutive;I[J)I" } : Jvm.MethodName) method_14_code (4 : Nat) (Option.some Jvm.ClassFile.FieldType.int) [((0 : Nat), (9 : Nat), (12 : Nat), (13 : Nat)), ((0 : Nat), (9 : Nat), (15 : Nat), (21 : Nat))]) ∈ zG := zG_of 544 rfl rfl
theorem k_545 : (Jvm.Cond.methodLink "TabledExecutiveLaw" (54 : Nat) ({ cls := "TabledExecutive", name := "ticks", desc := "(I)I" } : Jvm.MethodName)) ∈ zG := zG_of 545 (by decide +kernel) (by decide +kernel)
theorem k_546 : (Jvm.Cond.instanceMethod ({ cls := "TabledExecutive", name := "ticks", desc := "(I)I" } : Jvm.MethodName)) ∈ zG := zG_of 546 (by decide +kernel) (by decide +kernel)
theorem k_547 : (Jvm.Cond.selects "TabledExecutive" ({ cls := "TabledExecutive", name := "ticks", desc := "(I)I" } : Jvm.MethodName) ({ cls := "TabledExecutive", name := "ticks", desc := "(I)I" } : Jvm.MethodName)) ∈ zG := zG_of 547 (by decide +kernel) (by decide +kernel)
set_option maxRecDepth 20000 in
theorem k_548 : (Jvm.Cond.code ({ cls := "TabledExecutive", name := "ticks", desc := "(I)I" } : Jvm.MethodName) prog_1_method_15_code (4 : Nat) (Option.some Jvm.ClassFile.FieldType.int)) ∈ zG := zG_of 548 rfl rfl
theorem k_550 : (Jvm.Cond.methodLink "TabledExecutiveLaw" (128 : Nat) ({ cls := "TabledExecutiveLaw", name := "count", desc := "(LTabledExecutive;II[J)I" } : Jvm.MethodName)) ∈ zG := zG_of 550 (by decide +kernel) (by decide +kernel)
theorem k_551 : (Jvm.Cond.static ({ cls := "TabledExecutiveLaw", name := "count", desc := "(LTabledExecutive;II[J)I" } : Jvm.MethodName)) ∈ zG := zG_of 551 (by decide +kernel) (by decide +kernel)
set_option maxRecDepth 20000 in
theorem k_552 : (Jvm.Cond.codeWith ({ cls := "TabledExecutiveLaw", name := "count", desc := "(LTabledExecutive;II[J)I" } : Jvm.MethodName) method_15_code (5 : Nat) (Option.some Jvm.ClassFile.FieldType.int) [((0 : Nat), (10 : Nat), (13 : Nat), (15 : Nat))]) ∈ zG := zG_of 552 rfl rfl
theorem k_553 : (Jvm.Cond.methodLink "TabledExecutiveLaw" (58 : Nat) ({ cls := "TabledExecutive", name := "count", desc := "(II)I" } : Jvm.MethodName)) ∈ zG := zG_of 553 (by decide +kernel) (by decide +kernel)
theorem k_554 : (Jvm.Cond.instanceMethod ({ cls := "TabledExecutive", name := "count", desc := "(II)I" } : Jvm.MethodName)) ∈ zG := zG_of 554 (by decide +kernel) (by decide +kernel)
theorem k_555 : (Jvm.Cond.selects "TabledExecutive" ({ cls := "TabledExecutive", name := "count", desc := "(II)I" } : Jvm.MethodName) ({ cls := "TabledExecutive", name := "count", desc := "(II)I" } : Jvm.MethodName)) ∈ zG := zG_of 555 (by decide +kernel) (by decide +kernel)
set_option maxRecDepth 20000 in
theorem k_556 : (Jvm.Cond.code ({ cls := "TabledExecutive", name := "count", desc := "(II)I" } : Jvm.MethodName) prog_1_method_17_code (3 : Nat) (Option.some Jvm.ClassFile.FieldType.int)) ∈ zG := zG_of 556 rfl rfl
theorem k_557 : (Jvm.Cond.methodLink "TabledExecutiveLaw" (131 : Nat) ({ cls := "TabledExecutiveLaw", name := "shared", desc := "(LTabledExecutive;I[J)I" } : Jvm.MethodName)) ∈ zG := zG_of 557 (by decide +kernel) (by decide +kernel)
theorem k_558 : (Jvm.Cond.static ({ cls := "TabledExecutiveLaw", name := "shared", desc := "(LTabledExecutive;I[J)I" } : Jvm.MethodName)) ∈ zG := zG_of 558 (by decide +kernel) (by decide +kernel)
set_option maxRecDepth 20000 in
theorem k_559 : (Jvm.Cond.codeWith ({ cls := "TabledExecutiveLaw", name := "shared", desc := "(LTabledExecutive;I[J)I" } : Jvm.MethodName) method_16_code (4 : Nat) (Option.some Jvm.ClassFile.FieldType.int) [((0 : Nat), (9 : Nat), (12 : Nat), (15 : Nat))]) ∈ zG := zG_of 559 rfl rfl
theorem k_560 : (Jvm.Cond.methodLink "TabledExecutiveLaw" (61 : Nat) ({ cls := "TabledExecutive", name := "shared", desc := "(I)I" } : Jvm.MethodName)) ∈ zG := zG_of 560 (by decide +kernel) (by decide +kernel)
theorem k_561 : (Jvm.Cond.instanceMethod ({ cls := "TabledExecutive", name := "shared", desc := "(I)I" } : Jvm.MethodName)) ∈ zG := zG_of 561 (by decide +kernel) (by decide +kernel)
theorem k_562 : (Jvm.Cond.selects "TabledExecutive" ({ cls := "TabledExecutive", name := "shared", desc := "(I)I" } : Jvm.MethodName) ({ cls := "TabledExecutive", name := "shared", desc := "(I)I" } : Jvm.MethodName)) ∈ zG := zG_of 562 (by decide +kernel) (by decide +kernel)
set_option maxRecDepth 20000 in
theorem k_563 : (Jvm.Cond.code ({ cls := "TabledExecutive", name := "shared", desc := "(I)I" } : Jvm.MethodName) prog_1_method_18_code (2 : Nat) (Option.some Jvm.ClassFile.FieldType.int)) ∈ zG := zG_of 563 rfl rfl
theorem k_564 : (Jvm.Cond.classLink "TabledExecutiveLaw" (65 : Nat) "TabledExecutiveModel") ∈ zG := zG_of 564 (by decide +kernel) (by decide +kernel)
theorem k_565 : (Jvm.Cond.instantiable "TabledExecutiveModel" (22 : Nat)) ∈ zG := zG_of 565 (by decide +kernel) (by decide +kernel)
theorem k_566 : (Jvm.Cond.methodLink "TabledExecutiveLaw" (67 : Nat) ({ cls := "TabledExecutiveModel", name := "<init>", desc := "()V" } : Jvm.MethodName)) ∈ zG := zG_of 566 (by decide +kernel) (by decide +kernel)
theorem k_567 : (Jvm.Cond.instanceMethod ({ cls := "TabledExecutiveModel", name := "<init>", desc := "()V" } : Jvm.MethodName)) ∈ zG := zG_of 567 (by decide +kernel) (by decide +kernel)
set_option maxRecDepth 20000 in
theorem k_568 : (Jvm.Cond.code ({ cls := "TabledExecutiveModel", name := "<init>", desc := "()V" } : Jvm.MethodName) prog_9_method_1_code (1 : Nat) (Option.none : Option Jvm.ClassFile.FieldType)) ∈ zG := zG_of 568 rfl rfl
theorem k_569 : (Jvm.Cond.methodLink "TabledExecutiveModel" (1 : Nat) ({ cls := "java/lang/Object", name := "<init>", desc := "()V" } : Jvm.MethodName)) ∈ zG := zG_of 569 (by decide +kernel) (by decide +kernel)
theorem k_570 : (Jvm.Cond.fieldLink "TabledExecutiveModel" (62 : Nat) "TabledExecutiveModel" "fault" "I") ∈ zG := zG_of 570 (by decide +kernel) (by decide +kernel)
theorem k_571 : (Jvm.Cond.fieldLink "TabledExecutiveModel" (66 : Nat) "TabledExecutiveModel" "runs" "Z") ∈ zG := zG_of 571 (by decide +kernel) (by decide +kernel)
theorem k_572 : (Jvm.Cond.fieldLink "TabledExecutiveModel" (74 : Nat) "TabledExecutiveModel" "tasks" "I") ∈ zG := zG_of 572 (by decide +kernel) (by decide +kernel)
theorem k_573 : (Jvm.Cond.fieldLink "TabledExecutiveModel" (7 : Nat) "TabledExecutiveModel" "period" "[I") ∈ zG := zG_of 573 (by decide +kernel) (by decide +kernel)
theorem k_574 : (Jvm.Cond.fieldLink "TabledExecutiveModel" (13 : Nat) "TabledExecutiveModel" "work" "[I") ∈ zG := zG_of 574 (by decide +kernel) (by decide +kernel)
theorem k_575 : (Jvm.Cond.fieldLink "TabledExecutiveModel" (16 : Nat) "TabledExecutiveModel" "deadline" "[I") ∈ zG := zG_of 575 (by decide +kernel) (by decide +kernel)
theorem k_576 : (Jvm.Cond.fieldLink "TabledExecutiveModel" (19 : Nat) "TabledExecutiveModel" "offset" "[I") ∈ zG := zG_of 576 (by decide +kernel) (by decide +kernel)
theorem k_577 : (Jvm.Cond.fieldLink "TabledExecutiveModel" (22 : Nat) "TabledExecutiveModel" "entry" "[I") ∈ zG := zG_of 577 (by decide +kernel) (by decide +kernel)
theorem k_578 : (Jvm.Cond.fieldLink "TabledExecutiveModel" (77 : Nat) "TabledExecutiveModel" "slots" "I") ∈ zG := zG_of 578 (by decide +kernel) (by decide +kernel)
theorem k_579 : (Jvm.Cond.fieldLink "TabledExecutiveModel" (25 : Nat) "TabledExecutiveModel" "start" "[I") ∈ zG := zG_of 579 (by decide +kernel) (by decide +kernel)
theorem k_580 : (Jvm.Cond.fieldLink "TabledExecutiveModel" (28 : Nat) "TabledExecutiveModel" "length" "[I") ∈ zG := zG_of 580 (by decide +kernel) (by decide +kernel)
theorem k_581 : (Jvm.Cond.fieldLink "TabledExecutiveModel" (31 : Nat) "TabledExecutiveModel" "owner" "[I") ∈ zG := zG_of 581 (by decide +kernel) (by decide +kernel)
theorem k_582 : (Jvm.Cond.fieldLink "TabledExecutiveModel" (34 : Nat) "TabledExecutiveModel" "code" "[I") ∈ zG := zG_of 582 (by decide +kernel) (by decide +kernel)
theorem k_583 : (Jvm.Cond.fieldLink "TabledExecutiveModel" (37 : Nat) "TabledExecutiveModel" "shared" "[I") ∈ zG := zG_of 583 (by decide +kernel) (by decide +kernel)
theorem k_584 : (Jvm.Cond.fieldLink "TabledExecutiveModel" (111 : Nat) "TabledExecutiveModel" "time" "I") ∈ zG := zG_of 584 (by decide +kernel) (by decide +kernel)
theorem k_585 : (Jvm.Cond.fieldLink "TabledExecutiveModel" (40 : Nat) "TabledExecutiveModel" "lives" "[Z") ∈ zG := zG_of 585 (by decide +kernel) (by decide +kernel)
theorem k_586 : (Jvm.Cond.fieldLink "TabledExecutiveModel" (44 : Nat) "TabledExecutiveModel" "since" "[I") ∈ zG := zG_of 586 (by decide +kernel) (by decide +kernel)
theorem k_587 : (Jvm.Cond.fieldLink "TabledExecutiveModel" (47 : Nat) "TabledExecutiveModel" "had" "[I") ∈ zG := zG_of 587 (by decide +kernel) (by decide +kernel)
theorem k_588 : (Jvm.Cond.fieldLink "TabledExecutiveModel" (50 : Nat) "TabledExecutiveModel" "place" "[I") ∈ zG := zG_of 588 (by decide +kernel) (by decide +kernel)
theorem k_589 : (Jvm.Cond.fieldLink "TabledExecutiveModel" (53 : Nat) "TabledExecutiveModel" "register" "[I") ∈ zG := zG_of 589 (by decide +kernel) (by decide +kernel)
theorem k_590 : (Jvm.Cond.fieldLink "TabledExecutiveModel" (56 : Nat) "TabledExecutiveModel" "counted" "[I") ∈ zG := zG_of 590 (by decide +kernel) (by decide +kernel)
theorem k_591 : (Jvm.Cond.fieldLink "TabledExecutiveModel" (59 : Nat) "TabledExecutiveModel" "goes" "[I") ∈ zG := zG_of 591 (by decide +kernel) (by decide +kernel)
theorem k_592 : (Jvm.Cond.lays "TabledExecutiveModel" "TabledExecutiveModel" "fault" "I") ∈ zG := zG_of 592 (by decide +kernel) (by decide +kernel)
theorem k_594 : (Jvm.Cond.lays "TabledExecutiveModel" "TabledExecutiveModel" "runs" "Z") ∈ zG := zG_of 594 (by decide +kernel) (by decide +kernel)
theorem k_596 : (Jvm.Cond.lays "TabledExecutiveModel" "TabledExecutiveModel" "tasks" "I") ∈ zG := zG_of 596 (by decide +kernel) (by decide +kernel)
theorem k_598 : (Jvm.Cond.laysFinal "TabledExecutiveModel" "TabledExecutiveModel" "period" "[I") ∈ zG := zG_of 598 (by decide +kernel) (by decide +kernel)
theorem k_600 : (Jvm.Cond.laysFinal "TabledExecutiveModel" "TabledExecutiveModel" "work" "[I") ∈ zG := zG_of 600 (by decide +kernel) (by decide +kernel)
theorem k_602 : (Jvm.Cond.laysFinal "TabledExecutiveModel" "TabledExecutiveModel" "deadline" "[I") ∈ zG := zG_of 602 (by decide +kernel) (by decide +kernel)
theorem k_604 : (Jvm.Cond.laysFinal "TabledExecutiveModel" "TabledExecutiveModel" "offset" "[I") ∈ zG := zG_of 604 (by decide +kernel) (by decide +kernel)
theorem k_606 : (Jvm.Cond.laysFinal "TabledExecutiveModel" "TabledExecutiveModel" "entry" "[I") ∈ zG := zG_of 606 (by decide +kernel) (by decide +kernel)
theorem k_608 : (Jvm.Cond.lays "TabledExecutiveModel" "TabledExecutiveModel" "slots" "I") ∈ zG := zG_of 608 (by decide +kernel) (by decide +kernel)
theorem k_610 : (Jvm.Cond.laysFinal "TabledExecutiveModel" "TabledExecutiveModel" "start" "[I") ∈ zG := zG_of 610 (by decide +kernel) (by decide +kernel)
theorem k_612 : (Jvm.Cond.laysFinal "TabledExecutiveModel" "TabledExecutiveModel" "length" "[I") ∈ zG := zG_of 612 (by decide +kernel) (by decide +kernel)
theorem k_614 : (Jvm.Cond.laysFinal "TabledExecutiveModel" "TabledExecutiveModel" "owner" "[I") ∈ zG := zG_of 614 (by decide +kernel) (by decide +kernel)
theorem k_616 : (Jvm.Cond.laysFinal "TabledExecutiveModel" "TabledExecutiveModel" "code" "[I") ∈ zG := zG_of 616 (by decide +kernel) (by decide +kernel)
theorem k_618 : (Jvm.Cond.laysFinal "TabledExecutiveModel" "TabledExecutiveModel" "shared" "[I") ∈ zG := zG_of 618 (by decide +kernel) (by decide +kernel)
theorem k_620 : (Jvm.Cond.lays "TabledExecutiveModel" "TabledExecutiveModel" "time" "I") ∈ zG := zG_of 620 (by decide +kernel) (by decide +kernel)
theorem k_622 : (Jvm.Cond.laysFinal "TabledExecutiveModel" "TabledExecutiveModel" "lives" "[Z") ∈ zG := zG_of 622 (by decide +kernel) (by decide +kernel)
theorem k_624 : (Jvm.Cond.laysFinal "TabledExecutiveModel" "TabledExecutiveModel" "since" "[I") ∈ zG := zG_of 624 (by decide +kernel) (by decide +kernel)
theorem k_626 : (Jvm.Cond.laysFinal "TabledExecutiveModel" "TabledExecutiveModel" "had" "[I") ∈ zG := zG_of 626 (by decide +kernel) (by decide +kernel)
theorem k_628 : (Jvm.Cond.laysFinal "TabledExecutiveModel" "TabledExecutiveModel" "place" "[I") ∈ zG := zG_of 628 (by decide +kernel) (by decide +kernel)
theorem k_630 : (Jvm.Cond.laysFinal "TabledExecutiveModel" "TabledExecutiveModel" "register" "[I") ∈ zG := zG_of 630 (by decide +kernel) (by decide +kernel)
theorem k_632 : (Jvm.Cond.laysFinal "TabledExecutiveModel" "TabledExecutiveModel" "counted" "[I") ∈ zG := zG_of 632 (by decide +kernel) (by decide +kernel)
theorem k_634 : (Jvm.Cond.laysFinal "TabledExecutiveModel" "TabledExecutiveModel" "goes" "[I") ∈ zG := zG_of 634 (by decide +kernel) (by decide +kernel)
theorem k_637 : (Jvm.Cond.arrayClass Jvm.ClassFile.FieldType.boolean) ∈ zG := zG_of 637 (by decide +kernel) (by decide +kernel)
theorem k_638 : (Jvm.Cond.methodLink "TabledExecutiveLaw" (74 : Nat) ({ cls := "TabledExecutiveModel", name := "thrown", desc := "()I" } : Jvm.MethodName)) ∈ zG := zG_of 638 (by decide +kernel) (by decide +kernel)
theorem k_639 : (Jvm.Cond.instanceMethod ({ cls := "TabledExecutiveModel", name := "thrown", desc := "()I" } : Jvm.MethodName)) ∈ zG := zG_of 639 (by decide +kernel) (by decide +kernel)
theorem k_640 : (Jvm.Cond.selects "TabledExecutiveModel" ({ cls := "TabledExecutiveModel", name := "thrown", desc := "()I" } : Jvm.MethodName) ({ cls := "TabledExecutiveModel", name := "thrown", desc := "()I" } : Jvm.MethodName)) ∈ zG := zG_of 640 (by decide +kernel) (by decide +kernel)
set_option maxRecDepth 20000 in
theorem k_641 : (Jvm.Cond.code ({ cls := "TabledExecutiveModel", name := "thrown", desc := "()I" } : Jvm.MethodName) prog_9_method_2_code (1 : Nat) (Option.some Jvm.ClassFile.FieldType.int)) ∈ zG := zG_of 641 rfl rfl
theorem k_642 : (Jvm.Cond.methodLink "TabledExecutiveLaw" (73 : Nat) ({ cls := "TabledExecutiveModel", name := "load", desc := "(II)V" } : Jvm.MethodName)) ∈ zG := zG_of 642 (by decide +kernel) (by decide +kernel)
theorem k_643 : (Jvm.Cond.instanceMethod ({ cls := "TabledExecutiveModel", name := "load", desc := "(II)V" } : Jvm.MethodName)) ∈ zG := zG_of 643 (by decide +kernel) (by decide +kernel)
theorem k_644 : (Jvm.Cond.selects "TabledExecutiveModel" ({ cls := "TabledExecutiveModel", name := "load", desc := "(II)V" } : Jvm.MethodName) ({ cls := "TabledExecutiveModel", name := "load", desc := "(II)V" } : Jvm.MethodName)) ∈ zG := zG_of 644 (by decide +kernel) (by decide +kernel)
set_option maxRecDepth 20000 in
theorem k_645 : (Jvm.Cond.code ({ cls := "TabledExecutiveModel", name := "load", desc := "(II)V" } : Jvm.MethodName) prog_9_method_4_code (3 : Nat) (Option.none : Option Jvm.ClassFile.FieldType)) ∈ zG := zG_of 645 rfl rfl
theorem k_646 : (Jvm.Cond.methodLink "TabledExecutiveModel" (70 : Nat) ({ cls := "TabledExecutiveModel", name := "refused", desc := "(I)Z" } : Jvm.MethodName)) ∈ zG := zG_of 646 (by decide +kernel) (by decide +kernel)
theorem k_648 : (Jvm.Cond.instanceMethod ({ cls := "TabledExecutiveModel", name := "refused", desc := "(I)Z" } : Jvm.MethodName)) ∈ zG := zG_of 648 (by decide +kernel) (by decide +kernel)
set_option maxRecDepth 20000 in
theorem k_649 : (Jvm.Cond.code ({ cls := "TabledExecutiveModel", name := "refused", desc := "(I)Z" } : Jvm.MethodName) prog_9_method_3_code (2 : Nat) (Option.some Jvm.ClassFile.FieldType.boolean)) ∈ zG := zG_of 649 rfl rfl
theorem k_650 : (Jvm.Cond.methodLink "TabledExecutiveLaw" (80 : Nat) ({ cls := "TabledExecutiveModel", name := "task", desc := "(IIII)I" } : Jvm.MethodName)) ∈ zG := zG_of 650 (by decide +kernel) (by decide +kernel)
theorem k_651 : (Jvm.Cond.instanceMethod ({ cls := "TabledExecutiveModel", name := "task", desc := "(IIII)I" } : Jvm.MethodName)) ∈ zG := zG_of 651 (by decide +kernel) (by decide +kernel)
theorem k_652 : (Jvm.Cond.selects "TabledExecutiveModel" ({ cls := "TabledExecutiveModel", name := "task", desc := "(IIII)I" } : Jvm.MethodName) ({ cls := "TabledExecutiveModel", name := "task", desc := "(IIII)I" } : Jvm.MethodName)) ∈ zG := zG_of 652 (by decide +kernel) (by decide +kernel)
set_option maxRecDepth 20000 in
theorem k_653 : (Jvm.Cond.code ({ cls := "TabledExecutiveModel", name := "task", desc := "(IIII)I" } : Jvm.MethodName) prog_9_method_5_code (7 : Nat) (Option.some Jvm.ClassFile.FieldType.int)) ∈ zG := zG_of 653 rfl rfl
theorem k_654 : (Jvm.Cond.methodLink "TabledExecutiveLaw" (83 : Nat) ({ cls := "TabledExecutiveModel", name := "entry", desc := "(II)V" } : Jvm.MethodName)) ∈ zG := zG_of 654 (by decide +kernel) (by decide +kernel)
theorem k_655 : (Jvm.Cond.instanceMethod ({ cls := "TabledExecutiveModel", name := "entry", desc := "(II)V" } : Jvm.MethodName)) ∈ zG := zG_of 655 (by decide +kernel) (by decide +kernel)
theorem k_656 : (Jvm.Cond.selects "TabledExecutiveModel" ({ cls := "TabledExecutiveModel", name := "entry", desc := "(II)V" } : Jvm.MethodName) ({ cls := "TabledExecutiveModel", name := "entry", desc := "(II)V" } : Jvm.MethodName)) ∈ zG := zG_of 656 (by decide +kernel) (by decide +kernel)
set_option maxRecDepth 20000 in
theorem k_657 : (Jvm.Cond.code ({ cls := "TabledExecutiveModel", name := "entry", desc := "(II)V" } : Jvm.MethodName) prog_9_method_6_code (3 : Nat) (Option.none : Option Jvm.ClassFile.FieldType)) ∈ zG := zG_of 657 rfl rfl
theorem k_658 : (Jvm.Cond.methodLink "TabledExecutiveLaw" (87 : Nat) ({ cls := "TabledExecutiveModel", name := "clear", desc := "()V" } : Jvm.MethodName)) ∈ zG := zG_of 658 (by decide +kernel) (by decide +kernel)
theorem k_659 : (Jvm.Cond.instanceMethod ({ cls := "TabledExecutiveModel", name := "clear", desc := "()V" } : Jvm.MethodName)) ∈ zG := zG_of 659 (by decide +kernel) (by decide +kernel)
theorem k_660 : (Jvm.Cond.selects "TabledExecutiveModel" ({ cls := "TabledExecutiveModel", name := "clear", desc := "()V" } : Jvm.MethodName) ({ cls := "TabledExecutiveModel", name := "clear", desc := "()V" } : Jvm.MethodName)) ∈ zG := zG_of 660 (by decide +kernel) (by decide +kernel)
set_option maxRecDepth 20000 in
theorem k_661 : (Jvm.Cond.code ({ cls := "TabledExecutiveModel", name := "clear", desc := "()V" } : Jvm.MethodName) prog_9_method_7_code (1 : Nat) (Option.none : Option Jvm.ClassFile.FieldType)) ∈ zG := zG_of 661 rfl rfl
theorem k_662 : (Jvm.Cond.methodLink "TabledExecutiveLaw" (91 : Nat) ({ cls := "TabledExecutiveModel", name := "round", desc := "()I" } : Jvm.MethodName)) ∈ zG := zG_of 662 (by decide +kernel) (by decide +kernel)
theorem k_663 : (Jvm.Cond.instanceMethod ({ cls := "TabledExecutiveModel", name := "round", desc := "()I" } : Jvm.MethodName)) ∈ zG := zG_of 663 (by decide +kernel) (by decide +kernel)
theorem k_664 : (Jvm.Cond.selects "TabledExecutiveModel" ({ cls := "TabledExecutiveModel", name := "round", desc := "()I" } : Jvm.MethodName) ({ cls := "TabledExecutiveModel", name := "round", desc := "()I" } : Jvm.MethodName)) ∈ zG := zG_of 664 (by decide +kernel) (by decide +kernel)
set_option maxRecDepth 20000 in
theorem k_665 : (Jvm.Cond.code ({ cls := "TabledExecutiveModel", name := "round", desc := "()I" } : Jvm.MethodName) prog_9_method_9_code (2 : Nat) (Option.some Jvm.ClassFile.FieldType.int)) ∈ zG := zG_of 665 rfl rfl
theorem k_666 : (Jvm.Cond.methodLink "TabledExecutiveModel" (80 : Nat) ({ cls := "TabledExecutiveModel", name := "whole", desc := "()I" } : Jvm.MethodName)) ∈ zG := zG_of 666 (by decide +kernel) (by decide +kernel)
theorem k_668 : (Jvm.Cond.instanceMethod ({ cls := "TabledExecutiveModel", name := "whole", desc := "()I" } : Jvm.MethodName)) ∈ zG := zG_of 668 (by decide +kernel) (by decide +kernel)
set_option maxRecDepth 20000 in
theorem k_669 : (Jvm.Cond.code ({ cls := "TabledExecutiveModel", name := "whole", desc := "()I" } : Jvm.MethodName) prog_9_method_8_code (4 : Nat) (Option.some Jvm.ClassFile.FieldType.int)) ∈ zG := zG_of 669 rfl rfl
theorem k_670 : (Jvm.Cond.methodLink "TabledExecutiveLaw" (95 : Nat) ({ cls := "TabledExecutiveModel", name := "synthesize", desc := "()I" } : Jvm.MethodName)) ∈ zG := zG_of 670 (by decide +kernel) (by decide +kernel)
theorem k_671 : (Jvm.Cond.instanceMethod ({ cls := "TabledExecutiveModel", name := "synthesize", desc := "()I" } : Jvm.MethodName)) ∈ zG := zG_of 671 (by decide +kernel) (by decide +kernel)
theorem k_672 : (Jvm.Cond.selects "TabledExecutiveModel" ({ cls := "TabledExecutiveModel", name := "synthesize", desc := "()I" } : Jvm.MethodName) ({ cls := "TabledExecutiveModel", name := "synthesize", desc := "()I" } : Jvm.MethodName)) ∈ zG := zG_of 672 (by decide +kernel) (by decide +kernel)
set_option maxRecDepth 20000 in
theorem k_673 : (Jvm.Cond.code ({ cls := "TabledExecutiveModel", name := "synthesize", desc := "()I" } : Jvm.MethodName) prog_9_method_14_code (4 : Nat) (Option.some Jvm.ClassFile.FieldType.int)) ∈ zG := zG_of 673 rfl rfl
theorem k_674 : (Jvm.Cond.methodLink "TabledExecutiveModel" (91 : Nat) ({ cls := "TabledExecutiveModel", name := "greatestOffset", desc := "()I" } : Jvm.MethodName)) ∈ zG := zG_of 674 (by decide +kernel) (by decide +kernel)
theorem k_676 : (Jvm.Cond.instanceMethod ({ cls := "TabledExecutiveModel", name := "greatestOffset", desc := "()I" } : Jvm.MethodName)) ∈ zG := zG_of 676 (by decide +kernel) (by decide +kernel)
set_option maxRecDepth 20000 in
theorem k_677 : (Jvm.Cond.code ({ cls := "TabledExecutiveModel", name := "greatestOffset", desc := "()I" } : Jvm.MethodName) prog_9_method_10_code (3 : Nat) (Option.some Jvm.ClassFile.FieldType.int)) ∈ zG := zG_of 677 rfl rfl
theorem k_678 : (Jvm.Cond.methodLink "TabledExecutiveModel" (94 : Nat) ({ cls := "TabledExecutiveModel", name := "imagine", desc := "(II)Z" } : Jvm.MethodName)) ∈ zG := zG_of 678 (by decide +kernel) (by decide +kernel)
theorem k_680 : (Jvm.Cond.instanceMethod ({ cls := "TabledExecutiveModel", name := "imagine", desc := "(II)Z" } : Jvm.MethodName)) ∈ zG := zG_of 680 (by decide +kernel) (by decide +kernel)
set_option maxRecDepth 20000 in
theorem k_681 : (Jvm.Cond.code ({ cls := "TabledExecutiveModel", name := "imagine", desc := "(II)Z" } : Jvm.MethodName) prog_9_method_13_code (5 : Nat) (Option.some Jvm.ClassFile.FieldType.boolean)) ∈ zG := zG_of 681 rfl rfl
theorem k_682 : (Jvm.Cond.methodLink "TabledExecutiveModel" (84 : Nat) ({ cls := "TabledExecutiveModel", name := "isReleased", desc := "(II)Z" } : Jvm.MethodName)) ∈ zG := zG_of 682 (by decide +kernel) (by decide +kernel)
theorem k_684 : (Jvm.Cond.instanceMethod ({ cls := "TabledExecutiveModel", name := "isReleased", desc := "(II)Z" } : Jvm.MethodName)) ∈ zG := zG_of 684 (by decide +kernel) (by decide +kernel)
set_option maxRecDepth 20000 in
theorem k_685 : (Jvm.Cond.code ({ cls := "TabledExecutiveModel", name := "isReleased", desc := "(II)Z" } : Jvm.MethodName) prog_9_method_11_code (3 : Nat) (Option.some Jvm.ClassFile.FieldType.boolean)) ∈ zG := zG_of 685 rfl rfl
theorem k_686 : (Jvm.Cond.methodLink "TabledExecutiveModel" (88 : Nat) ({ cls := "TabledExecutiveModel", name := "chosen", desc := "()I" } : Jvm.MethodName)) ∈ zG := zG_of 686 (by decide +kernel) (by decide +kernel)
theorem k_688 : (Jvm.Cond.instanceMethod ({ cls := "TabledExecutiveModel", name := "chosen", desc := "()I" } : Jvm.MethodName)) ∈ zG := zG_of 688 (by decide +kernel) (by decide +kernel)
set_option maxRecDepth 20000 in
theorem k_689 : (Jvm.Cond.code ({ cls := "TabledExecutiveModel", name := "chosen", desc := "()I" } : Jvm.MethodName) prog_9_method_12_code (4 : Nat) (Option.some Jvm.ClassFile.FieldType.int)) ∈ zG := zG_of 689 rfl rfl
theorem k_690 : (Jvm.Cond.methodLink "TabledExecutiveLaw" (99 : Nat) ({ cls := "TabledExecutiveModel", name := "slot", desc := "(IIII)V" } : Jvm.MethodName)) ∈ zG := zG_of 690 (by decide +kernel) (by decide +kernel)
theorem k_691 : (Jvm.Cond.instanceMethod ({ cls := "TabledExecutiveModel", name := "slot", desc := "(IIII)V" } : Jvm.MethodName)) ∈ zG := zG_of 691 (by decide +kernel) (by decide +kernel)
theorem k_692 : (Jvm.Cond.selects "TabledExecutiveModel" ({ cls := "TabledExecutiveModel", name := "slot", desc := "(IIII)V" } : Jvm.MethodName) ({ cls := "TabledExecutiveModel", name := "slot", desc := "(IIII)V" } : Jvm.MethodName)) ∈ zG := zG_of 692 (by decide +kernel) (by decide +kernel)
set_option maxRecDepth 20000 in
theorem k_693 : (Jvm.Cond.code ({ cls := "TabledExecutiveModel", name := "slot", desc := "(IIII)V" } : Jvm.MethodName) prog_9_method_15_code (7 : Nat) (Option.none : Option Jvm.ClassFile.FieldType)) ∈ zG := zG_of 693 rfl rfl
theorem k_694 : (Jvm.Cond.methodLink "TabledExecutiveLaw" (102 : Nat) ({ cls := "TabledExecutiveModel", name := "drop", desc := "()V" } : Jvm.MethodName)) ∈ zG := zG_of 694 (by decide +kernel) (by decide +kernel)
theorem k_695 : (Jvm.Cond.instanceMethod ({ cls := "TabledExecutiveModel", name := "drop", desc := "()V" } : Jvm.MethodName)) ∈ zG := zG_of 695 (by decide +kernel) (by decide +kernel)
theorem k_696 : (Jvm.Cond.selects "TabledExecutiveModel" ({ cls := "TabledExecutiveModel", name := "drop", desc := "()V" } : Jvm.MethodName) ({ cls := "TabledExecutiveModel", name := "drop", desc := "()V" } : Jvm.MethodName)) ∈ zG := zG_of 696 (by decide +kernel) (by decide +kernel)
set_option maxRecDepth 20000 in
theorem k_697 : (Jvm.Cond.code ({ cls := "TabledExecutiveModel", name := "drop", desc := "()V" } : Jvm.MethodName) prog_9_method_16_code (1 : Nat) (Option.none : Option Jvm.ClassFile.FieldType)) ∈ zG := zG_of 697 rfl rfl
theorem k_698 : (Jvm.Cond.methodLink "TabledExecutiveLaw" (106 : Nat) ({ cls := "TabledExecutiveModel", name := "slots", desc := "()I" } : Jvm.MethodName)) ∈ zG := zG_of 698 (by decide +kernel) (by decide +kernel)
theorem k_699 : (Jvm.Cond.instanceMethod ({ cls := "TabledExecutiveModel", name := "slots", desc := "()I" } : Jvm.MethodName)) ∈ zG := zG_of 699 (by decide +kernel) (by decide +kernel)
theorem k_700 : (Jvm.Cond.selects "TabledExecutiveModel" ({ cls := "TabledExecutiveModel", name := "slots", desc := "()I" } : Jvm.MethodName) ({ cls := "TabledExecutiveModel", name := "slots", desc := "()I" } : Jvm.MethodName)) ∈ zG := zG_of 700 (by decide +kernel) (by decide +kernel)
set_option maxRecDepth 20000 in
theorem k_701 : (Jvm.Cond.code ({ cls := "TabledExecutiveModel", name := "slots", desc := "()I" } : Jvm.MethodName) prog_9_method_17_code (1 : Nat) (Option.some Jvm.ClassFile.FieldType.int)) ∈ zG := zG_of 701 rfl rfl
theorem k_702 : (Jvm.Cond.methodLink "TabledExecutiveLaw" (110 : Nat) ({ cls := "TabledExecutiveModel", name := "slotOf", desc := "(II)I" } : Jvm.MethodName)) ∈ zG := zG_of 702 (by decide +kernel) (by decide +kernel)
theorem k_703 : (Jvm.Cond.instanceMethod ({ cls := "TabledExecutiveModel", name := "slotOf", desc := "(II)I" } : Jvm.MethodName)) ∈ zG := zG_of 703 (by decide +kernel) (by decide +kernel)
theorem k_704 : (Jvm.Cond.selects "TabledExecutiveModel" ({ cls := "TabledExecutiveModel", name := "slotOf", desc := "(II)I" } : Jvm.MethodName) ({ cls := "TabledExecutiveModel", name := "slotOf", desc := "(II)I" } : Jvm.MethodName)) ∈ zG := zG_of 704 (by decide +kernel) (by decide +kernel)
set_option maxRecDepth 20000 in
theorem k_705 : (Jvm.Cond.code ({ cls := "TabledExecutiveModel", name := "slotOf", desc := "(II)I" } : Jvm.MethodName) prog_9_method_18_code (3 : Nat) (Option.some Jvm.ClassFile.FieldType.int)) ∈ zG := zG_of 705 rfl rfl
theorem k_706 : (Jvm.Cond.methodLink "TabledExecutiveLaw" (113 : Nat) ({ cls := "TabledExecutiveModel", name := "check", desc := "()Z" } : Jvm.MethodName)) ∈ zG := zG_of 706 (by decide +kernel) (by decide +kernel)
theorem k_707 : (Jvm.Cond.instanceMethod ({ cls := "TabledExecutiveModel", name := "check", desc := "()Z" } : Jvm.MethodName)) ∈ zG := zG_of 707 (by decide +kernel) (by decide +kernel)
theorem k_708 : (Jvm.Cond.selects "TabledExecutiveModel" ({ cls := "TabledExecutiveModel", name := "check", desc := "()Z" } : Jvm.MethodName) ({ cls := "TabledExecutiveModel", name := "check", desc := "()Z" } : Jvm.MethodName)) ∈ zG := zG_of 708 (by decide +kernel) (by decide +kernel)
set_option maxRecDepth 20000 in
theorem k_709 : (Jvm.Cond.code ({ cls := "TabledExecutiveModel", name := "check", desc := "()Z" } : Jvm.MethodName) prog_9_method_23_code (2 : Nat) (Option.some Jvm.ClassFile.FieldType.boolean)) ∈ zG := zG_of 709 rfl rfl
theorem k_710 : (Jvm.Cond.methodLink "TabledExecutiveModel" (107 : Nat) ({ cls := "TabledExecutiveModel", name := "isGood", desc := "()Z" } : Jvm.MethodName)) ∈ zG := zG_of 710 (by decide +kernel) (by decide +kernel)
theorem k_712 : (Jvm.Cond.instanceMethod ({ cls := "TabledExecutiveModel", name := "isGood", desc := "()Z" } : Jvm.MethodName)) ∈ zG := zG_of 712 (by decide +kernel) (by decide +kernel)
set_option maxRecDepth 20000 in
theorem k_713 : (Jvm.Cond.code ({ cls := "TabledExecutiveModel", name := "isGood", desc := "()Z" } : Jvm.MethodName) prog_9_method_22_code (4 : Nat) (Option.some Jvm.ClassFile.FieldType.boolean)) ∈ zG := zG_of 713 rfl rfl
theorem k_714 : (Jvm.Cond.methodLink "TabledExecutiveModel" (101 : Nat) ({ cls := "TabledExecutiveModel", name := "covering", desc := "(I)I" } : Jvm.MethodName)) ∈ zG := zG_of 714 (by decide +kernel) (by decide +kernel)
theorem k_716 : (Jvm.Cond.instanceMethod ({ cls := "TabledExecutiveModel", name := "covering", desc := "(I)I" } : Jvm.MethodName)) ∈ zG := zG_of 716 (by decide +kernel) (by decide +kernel)
set_option maxRecDepth 20000 in
theorem k_717 : (Jvm.Cond.code ({ cls := "TabledExecutiveModel", name := "covering", desc := "(I)I" } : Jvm.MethodName) prog_9_method_19_code (4 : Nat) (Option.some Jvm.ClassFile.FieldType.int)) ∈ zG := zG_of 717 rfl rfl
theorem k_718 : (Jvm.Cond.methodLink "TabledExecutiveModel" (104 : Nat) ({ cls := "TabledExecutiveModel", name := "isServed", desc := "(II)Z" } : Jvm.MethodName)) ∈ zG := zG_of 718 (by decide +kernel) (by decide +kernel)
theorem k_720 : (Jvm.Cond.instanceMethod ({ cls := "TabledExecutiveModel", name := "isServed", desc := "(II)Z" } : Jvm.MethodName)) ∈ zG := zG_of 720 (by decide +kernel) (by decide +kernel)
set_option maxRecDepth 20000 in
theorem k_721 : (Jvm.Cond.code ({ cls := "TabledExecutiveModel", name := "isServed", desc := "(II)Z" } : Jvm.MethodName) prog_9_method_21_code (8 : Nat) (Option.some Jvm.ClassFile.FieldType.boolean)) ∈ zG := zG_of 721 rfl rfl
theorem k_722 : (Jvm.Cond.methodLink "TabledExecutiveModel" (97 : Nat) ({ cls := "TabledExecutiveModel", name := "at", desc := "(I)I" } : Jvm.MethodName)) ∈ zG := zG_of 722 (by decide +kernel) (by decide +kernel)
theorem k_724 : (Jvm.Cond.instanceMethod ({ cls := "TabledExecutiveModel", name := "at", desc := "(I)I" } : Jvm.MethodName)) ∈ zG := zG_of 724 (by decide +kernel) (by decide +kernel)
set_option maxRecDepth 20000 in
theorem k_725 : (Jvm.Cond.code ({ cls := "TabledExecutiveModel", name := "at", desc := "(I)I" } : Jvm.MethodName) prog_9_method_20_code (4 : Nat) (Option.some Jvm.ClassFile.FieldType.int)) ∈ zG := zG_of 725 rfl rfl
theorem k_726 : (Jvm.Cond.methodLink "TabledExecutiveLaw" (116 : Nat) ({ cls := "TabledExecutiveModel", name := "stop", desc := "()V" } : Jvm.MethodName)) ∈ zG := zG_of 726 (by decide +kernel) (by decide +kernel)
theorem k_727 : (Jvm.Cond.instanceMethod ({ cls := "TabledExecutiveModel", name := "stop", desc := "()V" } : Jvm.MethodName)) ∈ zG := zG_of 727 (by decide +kernel) (by decide +kernel)
theorem k_728 : (Jvm.Cond.selects "TabledExecutiveModel" ({ cls := "TabledExecutiveModel", name := "stop", desc := "()V" } : Jvm.MethodName) ({ cls := "TabledExecutiveModel", name := "stop", desc := "()V" } : Jvm.MethodName)) ∈ zG := zG_of 728 (by decide +kernel) (by decide +kernel)
set_option maxRecDepth 20000 in
theorem k_729 : (Jvm.Cond.code ({ cls := "TabledExecutiveModel", name := "stop", desc := "()V" } : Jvm.MethodName) prog_9_method_24_code (1 : Nat) (Option.none : Option Jvm.ClassFile.FieldType)) ∈ zG := zG_of 729 rfl rfl
theorem k_730 : (Jvm.Cond.methodLink "TabledExecutiveLaw" (119 : Nat) ({ cls := "TabledExecutiveModel", name := "tick", desc := "()I" } : Jvm.MethodName)) ∈ zG := zG_of 730 (by decide +kernel) (by decide +kernel)
theorem k_731 : (Jvm.Cond.instanceMethod ({ cls := "TabledExecutiveModel", name := "tick", desc := "()I" } : Jvm.MethodName)) ∈ zG := zG_of 731 (by decide +kernel) (by decide +kernel)
theorem k_732 : (Jvm.Cond.selects "TabledExecutiveModel" ({ cls := "TabledExecutiveModel", name := "tick", desc := "()I" } : Jvm.MethodName) ({ cls := "TabledExecutiveModel", name := "tick", desc := "()I" } : Jvm.MethodName)) ∈ zG := zG_of 732 (by decide +kernel) (by decide +kernel)
set_option maxRecDepth 20000 in
theorem k_733 : (Jvm.Cond.code ({ cls := "TabledExecutiveModel", name := "tick", desc := "()I" } : Jvm.MethodName) prog_9_method_28_code (1 : Nat) (Option.some Jvm.ClassFile.FieldType.int)) ∈ zG := zG_of 733 rfl rfl
theorem k_734 : (Jvm.Cond.methodLink "TabledExecutiveModel" (121 : Nat) ({ cls := "TabledExecutiveModel", name := "one", desc := "()I" } : Jvm.MethodName)) ∈ zG := zG_of 734 (by decide +kernel) (by decide +kernel)
theorem k_736 : (Jvm.Cond.instanceMethod ({ cls := "TabledExecutiveModel", name := "one", desc := "()I" } : Jvm.MethodName)) ∈ zG := zG_of 736 (by decide +kernel) (by decide +kernel)
set_option maxRecDepth 20000 in
theorem k_737 : (Jvm.Cond.code ({ cls := "TabledExecutiveModel", name := "one", desc := "()I" } : Jvm.MethodName) prog_9_method_27_code (4 : Nat) (Option.some Jvm.ClassFile.FieldType.int)) ∈ zG := zG_of 737 rfl rfl
theorem k_738 : (Jvm.Cond.methodLink "TabledExecutiveModel" (114 : Nat) ({ cls := "TabledExecutiveModel", name := "release", desc := "(I)V" } : Jvm.MethodName)) ∈ zG := zG_of 738 (by decide +kernel) (by decide +kernel)
theorem k_740 : (Jvm.Cond.instanceMethod ({ cls := "TabledExecutiveModel", name := "release", desc := "(I)V" } : Jvm.MethodName)) ∈ zG := zG_of 740 (by decide +kernel) (by decide +kernel)
set_option maxRecDepth 20000 in
theorem k_741 : (Jvm.Cond.code ({ cls := "TabledExecutiveModel", name := "release", desc := "(I)V" } : Jvm.MethodName) prog_9_method_26_code (3 : Nat) (Option.none : Option Jvm.ClassFile.FieldType)) ∈ zG := zG_of 741 rfl rfl
theorem k_742 : (Jvm.Cond.methodLink "TabledExecutiveModel" (118 : Nat) ({ cls := "TabledExecutiveModel", name := "instruct", desc := "(I)I" } : Jvm.MethodName)) ∈ zG := zG_of 742 (by decide +kernel) (by decide +kernel)
theorem k_744 : (Jvm.Cond.instanceMethod ({ cls := "TabledExecutiveModel", name := "instruct", desc := "(I)I" } : Jvm.MethodName)) ∈ zG := zG_of 744 (by decide +kernel) (by decide +kernel)
set_option maxRecDepth 20000 in
theorem k_745 : (Jvm.Cond.code ({ cls := "TabledExecutiveModel", name := "instruct", desc := "(I)I" } : Jvm.MethodName) prog_9_method_25_code (6 : Nat) (Option.some Jvm.ClassFile.FieldType.int)) ∈ zG := zG_of 745 rfl rfl
theorem k_746 : (Jvm.Cond.methodLink "TabledExecutiveLaw" (123 : Nat) ({ cls := "TabledExecutiveModel", name := "ticks", desc := "(I)I" } : Jvm.MethodName)) ∈ zG := zG_of 746 (by decide +kernel) (by decide +kernel)
theorem k_747 : (Jvm.Cond.instanceMethod ({ cls := "TabledExecutiveModel", name := "ticks", desc := "(I)I" } : Jvm.MethodName)) ∈ zG := zG_of 747 (by decide +kernel) (by decide +kernel)
theorem k_748 : (Jvm.Cond.selects "TabledExecutiveModel" ({ cls := "TabledExecutiveModel", name := "ticks", desc := "(I)I" } : Jvm.MethodName) ({ cls := "TabledExecutiveModel", name := "ticks", desc := "(I)I" } : Jvm.MethodName)) ∈ zG := zG_of 748 (by decide +kernel) (by decide +kernel)
set_option maxRecDepth 20000 in
theorem k_749 : (Jvm.Cond.code ({ cls := "TabledExecutiveModel", name := "ticks", desc := "(I)I" } : Jvm.MethodName) prog_9_method_29_code (4 : Nat) (Option.some Jvm.ClassFile.FieldType.int)) ∈ zG := zG_of 749 rfl rfl
theorem k_750 : (Jvm.Cond.methodLink "TabledExecutiveLaw" (127 : Nat) ({ cls := "TabledExecutiveModel", name := "time", desc := "()I" } : Jvm.MethodName)) ∈ zG := zG_of 750 (by decide +kernel) (by decide +kernel)
theorem k_751 : (Jvm.Cond.instanceMethod ({ cls := "TabledExecutiveModel", name := "time", desc := "()I" } : Jvm.MethodName)) ∈ zG := zG_of 751 (by decide +kernel) (by decide +kernel)
theorem k_752 : (Jvm.Cond.selects "TabledExecutiveModel" ({ cls := "TabledExecutiveModel", name := "time", desc := "()I" } : Jvm.MethodName) ({ cls := "TabledExecutiveModel", name := "time", desc := "()I" } : Jvm.MethodName)) ∈ zG := zG_of 752 (by decide +kernel) (by decide +kernel)
set_option maxRecDepth 20000 in
theorem k_753 : (Jvm.Cond.code ({ cls := "TabledExecutiveModel", name := "time", desc := "()I" } : Jvm.MethodName) prog_9_method_30_code (1 : Nat) (Option.some Jvm.ClassFile.FieldType.int)) ∈ zG := zG_of 753 rfl rfl
theorem k_754 : (Jvm.Cond.methodLink "TabledExecutiveLaw" (130 : Nat) ({ cls := "TabledExecutiveModel", name := "count", desc := "(II)I" } : Jvm.MethodName)) ∈ zG := zG_of 754 (by decide +kernel) (by decide +kernel)
theorem k_755 : (Jvm.Cond.instanceMethod ({ cls := "TabledExecutiveModel", name := "count", desc := "(II)I" } : Jvm.MethodName)) ∈ zG := zG_of 755 (by decide +kernel) (by decide +kernel)
theorem k_756 : (Jvm.Cond.selects "TabledExecutiveModel" ({ cls := "TabledExecutiveModel", name := "count", desc := "(II)I" } : Jvm.MethodName) ({ cls := "TabledExecutiveModel", name := "count", desc := "(II)I" } : Jvm.MethodName)) ∈ zG := zG_of 756 (by decide +kernel) (by decide +kernel)
set_option maxRecDepth 20000 in
theorem k_757 : (Jvm.Cond.code ({ cls := "TabledExecutiveModel", name := "count", desc := "(II)I" } : Jvm.MethodName) prog_9_method_31_code (3 : Nat) (Option.some Jvm.ClassFile.FieldType.int)) ∈ zG := zG_of 757 rfl rfl
theorem k_758 : (Jvm.Cond.methodLink "TabledExecutiveLaw" (133 : Nat) ({ cls := "TabledExecutiveModel", name := "shared", desc := "(I)I" } : Jvm.MethodName)) ∈ zG := zG_of 758 (by decide +kernel) (by decide +kernel)
theorem k_759 : (Jvm.Cond.instanceMethod ({ cls := "TabledExecutiveModel", name := "shared", desc := "(I)I" } : Jvm.MethodName)) ∈ zG := zG_of 759 (by decide +kernel) (by decide +kernel)
theorem k_760 : (Jvm.Cond.selects "TabledExecutiveModel" ({ cls := "TabledExecutiveModel", name := "shared", desc := "(I)I" } : Jvm.MethodName) ({ cls := "TabledExecutiveModel", name := "shared", desc := "(I)I" } : Jvm.MethodName)) ∈ zG := zG_of 760 (by decide +kernel) (by decide +kernel)
set_option maxRecDepth 20000 in
theorem k_761 : (Jvm.Cond.code ({ cls := "TabledExecutiveModel", name := "shared", desc := "(I)I" } : Jvm.MethodName) prog_9_method_32_code (2 : Nat) (Option.some Jvm.ClassFile.FieldType.int)) ∈ zG := zG_of 761 rfl rfl
theorem k_762 : (Jvm.Cond.arrayClass Jvm.ClassFile.FieldType.long) ∈ zG := zG_of 762 (by decide +kernel) (by decide +kernel)
theorem u_Jb : ∀ w ∈ u_ws R_Jb F_Jb 5, w ∈ zG := by
  intro w hw
  obtain ⟨k, hk, rfl⟩ := List.mem_map.mp hw
  have hk := List.mem_range.mp hk
  match k, hk with
  | 0, _ => exact k_78
  | 1, _ => exact k_80
  | 2, _ => exact k_82
  | 3, _ => exact k_84
  | 4, _ => exact k_86
  | k + 5, h => exact absurd h (by omega)
theorem u_Mc : ∀ w ∈ u_ws R_Mc F_Mc 2, w ∈ zG := by
  intro w hw
  obtain ⟨k, hk, rfl⟩ := List.mem_map.mp hw
  have hk := List.mem_range.mp hk
  match k, hk with
  | 0, _ => exact k_177
  | 1, _ => exact k_179
  | k + 2, h => exact absurd h (by omega)
theorem u_Pl : ∀ w ∈ u_ws R_Pl F_Pl 2, w ∈ zG := by
  intro w hw
  obtain ⟨k, hk, rfl⟩ := List.mem_map.mp hw
  have hk := List.mem_range.mp hk
  match k, hk with
  | 0, _ => exact k_162
  | 1, _ => exact k_164
  | k + 2, h => exact absurd h (by omega)
theorem u_Tb : ∀ w ∈ u_ws R_Tb F_Tb 4, w ∈ zG := by
  intro w hw
  obtain ⟨k, hk, rfl⟩ := List.mem_map.mp hw
  have hk := List.mem_range.mp hk
  match k, hk with
  | 0, _ => exact k_145
  | 1, _ => exact k_147
  | 2, _ => exact k_149
  | 3, _ => exact k_151
  | k + 4, h => exact absurd h (by omega)
theorem u_Tk : ∀ w ∈ u_ws R_Tk F_Tk 7, w ∈ zG := by
  intro w hw
  obtain ⟨k, hk, rfl⟩ := List.mem_map.mp hw
  have hk := List.mem_range.mp hk
  match k, hk with
  | 0, _ => exact k_108
  | 1, _ => exact k_110
  | 2, _ => exact k_112
  | 3, _ => exact k_114
  | 4, _ => exact k_116
  | 5, _ => exact k_118
  | 6, _ => exact k_120
  | k + 7, h => exact absurd h (by omega)
theorem u_Tl : ∀ w ∈ u_ws R_Tl F_Tl 2, w ∈ zG := by
  intro w hw
  obtain ⟨k, hk, rfl⟩ := List.mem_map.mp hw
  have hk := List.mem_range.mp hk
  match k, hk with
  | 0, _ => exact k_129
  | 1, _ => exact k_131
  | k + 2, h => exact absurd h (by omega)
theorem u_Ex : ∀ w ∈ u_ws R_Ex F_Ex 8, w ∈ zG := by
  intro w hw
  obtain ⟨k, hk, rfl⟩ := List.mem_map.mp hw
  have hk := List.mem_range.mp hk
  match k, hk with
  | 0, _ => exact k_190
  | 1, _ => exact k_192
  | 2, _ => exact k_194
  | 3, _ => exact k_196
  | 4, _ => exact k_198
  | 5, _ => exact k_200
  | 6, _ => exact k_202
  | 7, _ => exact k_204
  | k + 8, h => exact absurd h (by omega)
theorem u_Md : ∀ w ∈ u_ws R_Md F_Md 22, w ∈ zG := by
  intro w hw
  obtain ⟨k, hk, rfl⟩ := List.mem_map.mp hw
  have hk := List.mem_range.mp hk
  match k, hk with
  | 0, _ => exact k_592
  | 1, _ => exact k_594
  | 2, _ => exact k_596
  | 3, _ => exact k_598
  | 4, _ => exact k_600
  | 5, _ => exact k_602
  | 6, _ => exact k_604
  | 7, _ => exact k_606
  | 8, _ => exact k_608
  | 9, _ => exact k_610
  | 10, _ => exact k_612
  | 11, _ => exact k_614
  | 12, _ => exact k_616
  | 13, _ => exact k_618
  | 14, _ => exact k_620
  | 15, _ => exact k_622
  | 16, _ => exact k_624
  | 17, _ => exact k_626
  | 18, _ => exact k_628
  | 19, _ => exact k_630
  | 20, _ => exact k_632
  | 21, _ => exact k_634
  | k + 22, h => exact absurd h (by omega)
end
section
section XPURE
theorem xp_inc1 (n : Nat) : nI n + Int32.ofInt 1 = nI (n + 1) := by
  have h : Int32.ofInt 1 = 1 := by decide
  rw [h]; exact nI_1 n
theorem xp_eq0 {a : Nat} (h : a < 2 ^ 31) : nI a = 0 ↔ a = 0 := by
  rw [← nI_0]; exact nI_eq h (by decide)
theorem xp_0le {a : Nat} (h : a < 2 ^ 31) : 0 ≤ nI a ↔ 0 ≤ a := by
  rw [← nI_0]; exact nI_leI (by decide) h
theorem xp_le0 {a : Nat} (h : a < 2 ^ 31) : nI a ≤ 0 ↔ a ≤ 0 := by
  rw [← nI_0]; exact nI_leI h (by decide)
theorem xp_lt0 {a : Nat} (h : a < 2 ^ 31) : nI a < 0 ↔ a < 0 := by
  rw [← nI_0]; exact nI_ltI h (by decide)
theorem xp_0lt {a : Nat} (h : a < 2 ^ 31) : 0 < nI a ↔ 0 < a := by
  rw [← nI_0]; exact nI_ltI (by decide) h
theorem xp_nem1 {a : Nat} (h : a < 2 ^ 31) : ¬ nI a = -1 := by
  intro q
  have e := nI_toInt h
  rw [q] at e
  have e2 : (-1 : Int32).toInt = -1 := by decide
  rw [e2] at e
  omega
/-- sums -/
def xs_sm (f : Nat → Nat) : Nat → Nat
  | 0 => 0
  | n + 1 => xs_sm f n + f n
theorem xs_add (f : Nat → Nat) (a b : Nat) : xs_sm f (a + b) = xs_sm f a + xs_sm (fun j => f (a + j)) b := by
  induction b with
  | zero => rfl
  | succ b ih =>
    show xs_sm f (a + b) + f (a + b) = xs_sm f a + (xs_sm (fun j => f (a + j)) b + f (a + b))
    omega
theorem xs_congr {f g : Nat → Nat} {n : Nat} (h : ∀ j, j < n → f j = g j) : xs_sm f n = xs_sm g n := by
  induction n with
  | zero => rfl
  | succ n ih =>
    show xs_sm f n + f n = xs_sm g n + g n
    rw [ih (fun j hj => h j (by omega)), h n (by omega)]
theorem xs_zero {f : Nat → Nat} {n : Nat} : xs_sm f n = 0 ↔ ∀ j, j < n → f j = 0 := by
  induction n with
  | zero => exact ⟨fun _ j hj => by omega, fun _ => rfl⟩
  | succ n ih =>
    constructor
    · intro h j hj
      have h2 : xs_sm f n + f n = 0 := h
      rcases Nat.lt_or_ge j n with c | c
      · exact ih.mp (by omega) j c
      · have : j = n := by omega
        subst this; omega
    · intro h
      show xs_sm f n + f n = 0
      have h1 := ih.mpr (fun j hj => h j (by omega))
      have h2 := h n (by omega)
      omega
/-- a full turn from o on counts what a turn from 0 on counts -/
theorem xs_turn (f : Nat → Nat) (h : Nat) (hp : ∀ x, f (x + h) = f x) (o : Nat) : xs_sm (fun j => f (o + j)) h = xs_sm f h := by
  induction o with
  | zero => exact xs_congr (fun j _ => by rw [Nat.zero_add])
  | succ o ih =>
    have e1 : xs_sm (fun j => f (o + j)) (1 + h) = xs_sm (fun j => f (o + j)) 1 + xs_sm (fun j => f (o + (1 + j))) h := xs_add (fun j => f (o + j)) 1 h
    have e2 : xs_sm (fun j => f (o + j)) (h + 1) = xs_sm (fun j => f (o + j)) h + f (o + h) := rfl
    have e3 : xs_sm (fun j => f (o + j)) 1 = 0 + f (o + 0) := rfl
    have e4 : xs_sm (fun j => f (o + 1 + j)) h = xs_sm (fun j => f (o + (1 + j))) h := xs_congr (fun j _ => by rw [Nat.add_assoc])
    rw [Nat.add_comm 1 h, e2, hp o, e3, Nat.add_zero] at e1
    rw [e4]
    omega
theorem xs_blocks (f : Nat → Nat) (p q : Nat) : xs_sm f (q * p) = xs_sm (fun k => xs_sm (fun j => f (k * p + j)) p) q := by
  induction q with
  | zero => rw [Nat.zero_mul]; rfl
  | succ q ih =>
    rw [Nat.succ_mul, xs_add, ih]
    rfl
theorem xs_plus (f g : Nat → Nat) (n : Nat) : xs_sm (fun j => f j + g j) n = xs_sm f n + xs_sm g n := by
  induction n with
  | zero => rfl
  | succ n ih =>
    show xs_sm (fun j => f j + g j) n + (f n + g n) = (xs_sm f n + f n) + (xs_sm g n + g n)
    omega
end XPURE
end
section
theorem d_Ex_init_0 : decode b_Ex_init 0 = .ok (.aload_n 0, 1) := by decide +kernel
theorem d_Ex_init_1 : decode b_Ex_init 1 = .ok (.invokespecial 1, 3) := by decide +kernel
theorem d_Ex_init_4 : decode b_Ex_init 4 = .ok (.aload_n 0, 1) := by decide +kernel
theorem d_Ex_init_5 : decode b_Ex_init 5 = .ok (.new 7, 3) := by decide +kernel
theorem d_Ex_init_8 : decode b_Ex_init 8 = .ok (.dup, 1) := by decide +kernel
theorem d_Ex_init_9 : decode b_Ex_init 9 = .ok (.invokespecial 9, 3) := by decide +kernel
theorem d_Ex_init_12 : decode b_Ex_init 12 = .ok (.putfield 10, 3) := by decide +kernel
theorem d_Ex_init_15 : decode b_Ex_init 15 = .ok (.aload_n 0, 1) := by decide +kernel
theorem d_Ex_init_16 : decode b_Ex_init 16 = .ok (.new 16, 3) := by decide +kernel
theorem d_Ex_init_19 : decode b_Ex_init 19 = .ok (.dup, 1) := by decide +kernel
theorem d_Ex_init_20 : decode b_Ex_init 20 = .ok (.invokespecial 18, 3) := by decide +kernel
theorem d_Ex_init_23 : decode b_Ex_init 23 = .ok (.putfield 19, 3) := by decide +kernel
theorem d_Ex_init_26 : decode b_Ex_init 26 = .ok (.aload_n 0, 1) := by decide +kernel
theorem d_Ex_init_27 : decode b_Ex_init 27 = .ok (.new 23, 3) := by decide +kernel
theorem d_Ex_init_30 : decode b_Ex_init 30 = .ok (.dup, 1) := by decide +kernel
theorem d_Ex_init_31 : decode b_Ex_init 31 = .ok (.invokespecial 25, 3) := by decide +kernel
theorem d_Ex_init_34 : decode b_Ex_init 34 = .ok (.putfield 26, 3) := by decide +kernel
theorem d_Ex_init_37 : decode b_Ex_init 37 = .ok (.aload_n 0, 1) := by decide +kernel
theorem d_Ex_init_38 : decode b_Ex_init 38 = .ok (.new 30, 3) := by decide +kernel
theorem d_Ex_init_41 : decode b_Ex_init 41 = .ok (.dup, 1) := by decide +kernel
theorem d_Ex_init_42 : decode b_Ex_init 42 = .ok (.invokespecial 32, 3) := by decide +kernel
theorem d_Ex_init_45 : decode b_Ex_init 45 = .ok (.putfield 33, 3) := by decide +kernel
theorem d_Ex_init_48 : decode b_Ex_init 48 = .ok (.aload_n 0, 1) := by decide +kernel
theorem d_Ex_init_49 : decode b_Ex_init 49 = .ok (.sipush 240, 3) := by decide +kernel
theorem d_Ex_init_52 : decode b_Ex_init 52 = .ok (.newarray .int, 2) := by decide +kernel
theorem d_Ex_init_54 : decode b_Ex_init 54 = .ok (.putfield 37, 3) := by decide +kernel
theorem d_Ex_init_57 : decode b_Ex_init 57 = .ok (.aload_n 0, 1) := by decide +kernel
theorem d_Ex_init_58 : decode b_Ex_init 58 = .ok (.iconst 0, 1) := by decide +kernel
theorem d_Ex_init_59 : decode b_Ex_init 59 = .ok (.putfield 41, 3) := by decide +kernel
theorem d_Ex_init_62 : decode b_Ex_init 62 = .ok (.aload_n 0, 1) := by decide +kernel
theorem d_Ex_init_63 : decode b_Ex_init 63 = .ok (.iconst 1, 1) := by decide +kernel
theorem d_Ex_init_64 : decode b_Ex_init 64 = .ok (.putfield 45, 3) := by decide +kernel
theorem d_Ex_init_67 : decode b_Ex_init 67 = .ok (.aload_n 0, 1) := by decide +kernel
theorem d_Ex_init_68 : decode b_Ex_init 68 = .ok (.iconst 0, 1) := by decide +kernel
theorem d_Ex_init_69 : decode b_Ex_init 69 = .ok (.putfield 49, 3) := by decide +kernel
theorem d_Ex_init_72 : decode b_Ex_init 72 = .ok (.return_, 1) := by decide +kernel
theorem d_Tl_init_0 : decode b_Tl_init 0 = .ok (.aload_n 0, 1) := by decide +kernel
theorem d_Tl_init_1 : decode b_Tl_init 1 = .ok (.invokespecial 3, 3) := by decide +kernel
theorem d_Tl_init_4 : decode b_Tl_init 4 = .ok (.aload_n 0, 1) := by decide +kernel
theorem d_Tl_init_5 : decode b_Tl_init 5 = .ok (.bipush 6, 2) := by decide +kernel
theorem d_Tl_init_7 : decode b_Tl_init 7 = .ok (.anewarray 9, 3) := by decide +kernel
theorem d_Tl_init_10 : decode b_Tl_init 10 = .ok (.putfield 11, 3) := by decide +kernel
theorem d_Tl_init_13 : decode b_Tl_init 13 = .ok (.iconst 0, 1) := by decide +kernel
theorem d_Tl_init_14 : decode b_Tl_init 14 = .ok (.istore_n 1, 1) := by decide +kernel
theorem d_Tl_init_15 : decode b_Tl_init 15 = .ok (.iload_n 1, 1) := by decide +kernel
theorem d_Tl_init_16 : decode b_Tl_init 16 = .ok (.bipush 6, 2) := by decide +kernel
theorem d_Tl_init_18 : decode b_Tl_init 18 = .ok (.if_icmp .ge 22, 3) := by decide +kernel
theorem d_Tl_init_21 : decode b_Tl_init 21 = .ok (.aload_n 0, 1) := by decide +kernel
theorem d_Tl_init_22 : decode b_Tl_init 22 = .ok (.getfield 11, 3) := by decide +kernel
theorem d_Tl_init_25 : decode b_Tl_init 25 = .ok (.iload_n 1, 1) := by decide +kernel
theorem d_Tl_init_26 : decode b_Tl_init 26 = .ok (.new 9, 3) := by decide +kernel
theorem d_Tl_init_29 : decode b_Tl_init 29 = .ok (.dup, 1) := by decide +kernel
theorem d_Tl_init_30 : decode b_Tl_init 30 = .ok (.invokespecial 17, 3) := by decide +kernel
theorem d_Tl_init_33 : decode b_Tl_init 33 = .ok (.aastore, 1) := by decide +kernel
theorem d_Tl_init_34 : decode b_Tl_init 34 = .ok (.iinc 1 1, 3) := by decide +kernel
theorem d_Tl_init_37 : decode b_Tl_init 37 = .ok (.goto (-22), 3) := by decide +kernel
theorem d_Tl_init_40 : decode b_Tl_init 40 = .ok (.return_, 1) := by decide +kernel
theorem d_Tk_init_0 : decode b_Tk_init 0 = .ok (.aload_n 0, 1) := by decide +kernel
theorem d_Tk_init_1 : decode b_Tk_init 1 = .ok (.invokespecial 3, 3) := by decide +kernel
theorem d_Tk_init_4 : decode b_Tk_init 4 = .ok (.aload_n 0, 1) := by decide +kernel
theorem d_Tk_init_5 : decode b_Tk_init 5 = .ok (.iconst 1, 1) := by decide +kernel
theorem d_Tk_init_6 : decode b_Tk_init 6 = .ok (.putfield 9, 3) := by decide +kernel
theorem d_Tk_init_9 : decode b_Tk_init 9 = .ok (.aload_n 0, 1) := by decide +kernel
theorem d_Tk_init_10 : decode b_Tk_init 10 = .ok (.new 15, 3) := by decide +kernel
theorem d_Tk_init_13 : decode b_Tk_init 13 = .ok (.dup, 1) := by decide +kernel
theorem d_Tk_init_14 : decode b_Tk_init 14 = .ok (.invokespecial 17, 3) := by decide +kernel
theorem d_Tk_init_17 : decode b_Tk_init 17 = .ok (.putfield 18, 3) := by decide +kernel
theorem d_Tk_init_20 : decode b_Tk_init 20 = .ok (.aload_n 0, 1) := by decide +kernel
theorem d_Tk_init_21 : decode b_Tk_init 21 = .ok (.iconst 4, 1) := by decide +kernel
theorem d_Tk_init_22 : decode b_Tk_init 22 = .ok (.newarray .int, 2) := by decide +kernel
theorem d_Tk_init_24 : decode b_Tk_init 24 = .ok (.putfield 22, 3) := by decide +kernel
theorem d_Tk_init_27 : decode b_Tk_init 27 = .ok (.return_, 1) := by decide +kernel
theorem d_Jb_init_0 : decode b_Jb_init 0 = .ok (.aload_n 0, 1) := by decide +kernel
theorem d_Jb_init_1 : decode b_Jb_init 1 = .ok (.invokespecial 3, 3) := by decide +kernel
theorem d_Jb_init_4 : decode b_Jb_init 4 = .ok (.aload_n 0, 1) := by decide +kernel
theorem d_Jb_init_5 : decode b_Jb_init 5 = .ok (.iconst 4, 1) := by decide +kernel
theorem d_Jb_init_6 : decode b_Jb_init 6 = .ok (.newarray .int, 2) := by decide +kernel
theorem d_Jb_init_8 : decode b_Jb_init 8 = .ok (.putfield 9, 3) := by decide +kernel
theorem d_Jb_init_11 : decode b_Jb_init 11 = .ok (.return_, 1) := by decide +kernel
theorem d_Tb_init_0 : decode b_Tb_init 0 = .ok (.aload_n 0, 1) := by decide +kernel
theorem d_Tb_init_1 : decode b_Tb_init 1 = .ok (.invokespecial 3, 3) := by decide +kernel
theorem d_Tb_init_4 : decode b_Tb_init 4 = .ok (.aload_n 0, 1) := by decide +kernel
theorem d_Tb_init_5 : decode b_Tb_init 5 = .ok (.bipush 60, 2) := by decide +kernel
theorem d_Tb_init_7 : decode b_Tb_init 7 = .ok (.newarray .int, 2) := by decide +kernel
theorem d_Tb_init_9 : decode b_Tb_init 9 = .ok (.putfield 9, 3) := by decide +kernel
theorem d_Tb_init_12 : decode b_Tb_init 12 = .ok (.aload_n 0, 1) := by decide +kernel
theorem d_Tb_init_13 : decode b_Tb_init 13 = .ok (.bipush 60, 2) := by decide +kernel
theorem d_Tb_init_15 : decode b_Tb_init 15 = .ok (.newarray .int, 2) := by decide +kernel
theorem d_Tb_init_17 : decode b_Tb_init 17 = .ok (.putfield 15, 3) := by decide +kernel
theorem d_Tb_init_20 : decode b_Tb_init 20 = .ok (.aload_n 0, 1) := by decide +kernel
theorem d_Tb_init_21 : decode b_Tb_init 21 = .ok (.bipush 60, 2) := by decide +kernel
theorem d_Tb_init_23 : decode b_Tb_init 23 = .ok (.newarray .int, 2) := by decide +kernel
theorem d_Tb_init_25 : decode b_Tb_init 25 = .ok (.putfield 18, 3) := by decide +kernel
theorem d_Tb_init_28 : decode b_Tb_init 28 = .ok (.return_, 1) := by decide +kernel
theorem d_Pl_init_0 : decode b_Pl_init 0 = .ok (.aload_n 0, 1) := by decide +kernel
theorem d_Pl_init_1 : decode b_Pl_init 1 = .ok (.invokespecial 3, 3) := by decide +kernel
theorem d_Pl_init_4 : decode b_Pl_init 4 = .ok (.aload_n 0, 1) := by decide +kernel
theorem d_Pl_init_5 : decode b_Pl_init 5 = .ok (.bipush 6, 2) := by decide +kernel
theorem d_Pl_init_7 : decode b_Pl_init 7 = .ok (.newarray .int, 2) := by decide +kernel
theorem d_Pl_init_9 : decode b_Pl_init 9 = .ok (.putfield 9, 3) := by decide +kernel
theorem d_Pl_init_12 : decode b_Pl_init 12 = .ok (.aload_n 0, 1) := by decide +kernel
theorem d_Pl_init_13 : decode b_Pl_init 13 = .ok (.bipush 6, 2) := by decide +kernel
theorem d_Pl_init_15 : decode b_Pl_init 15 = .ok (.newarray .int, 2) := by decide +kernel
theorem d_Pl_init_17 : decode b_Pl_init 17 = .ok (.putfield 15, 3) := by decide +kernel
theorem d_Pl_init_20 : decode b_Pl_init 20 = .ok (.return_, 1) := by decide +kernel
theorem d_Mc_init_0 : decode b_Mc_init 0 = .ok (.aload_n 0, 1) := by decide +kernel
theorem d_Mc_init_1 : decode b_Mc_init 1 = .ok (.invokespecial 3, 3) := by decide +kernel
theorem d_Mc_init_4 : decode b_Mc_init 4 = .ok (.aload_n 0, 1) := by decide +kernel
theorem d_Mc_init_5 : decode b_Mc_init 5 = .ok (.bipush 64, 2) := by decide +kernel
theorem d_Mc_init_7 : decode b_Mc_init 7 = .ok (.newarray .int, 2) := by decide +kernel
theorem d_Mc_init_9 : decode b_Mc_init 9 = .ok (.putfield 9, 3) := by decide +kernel
theorem d_Mc_init_12 : decode b_Mc_init 12 = .ok (.aload_n 0, 1) := by decide +kernel
theorem d_Mc_init_13 : decode b_Mc_init 13 = .ok (.bipush 16, 2) := by decide +kernel
theorem d_Mc_init_15 : decode b_Mc_init 15 = .ok (.newarray .int, 2) := by decide +kernel
theorem d_Mc_init_17 : decode b_Mc_init 17 = .ok (.putfield 15, 3) := by decide +kernel
theorem d_Mc_init_20 : decode b_Mc_init 20 = .ok (.return_, 1) := by decide +kernel
theorem d_Ex_round_0 : decode b_Ex_round 0 = .ok (.aload_n 0, 1) := by decide +kernel
theorem d_Ex_round_1 : decode b_Ex_round 1 = .ok (.getfield 10, 3) := by decide +kernel
theorem d_Ex_round_4 : decode b_Ex_round 4 = .ok (.invokevirtual 95, 3) := by decide +kernel
theorem d_Ex_round_7 : decode b_Ex_round 7 = .ok (.ireturn, 1) := by decide +kernel
theorem d_Tl_commonRound_0 : decode b_Tl_commonRound 0 = .ok (.iconst 1, 1) := by decide +kernel
theorem d_Tl_commonRound_1 : decode b_Tl_commonRound 1 = .ok (.istore_n 1, 1) := by decide +kernel
theorem d_Tl_commonRound_2 : decode b_Tl_commonRound 2 = .ok (.iload_n 1, 1) := by decide +kernel
theorem d_Tl_commonRound_3 : decode b_Tl_commonRound 3 = .ok (.sipush 240, 3) := by decide +kernel
theorem d_Tl_commonRound_6 : decode b_Tl_commonRound 6 = .ok (.if_icmp .gt 19, 3) := by decide +kernel
theorem d_Tl_commonRound_9 : decode b_Tl_commonRound 9 = .ok (.aload_n 0, 1) := by decide +kernel
theorem d_Tl_commonRound_10 : decode b_Tl_commonRound 10 = .ok (.iload_n 1, 1) := by decide +kernel
theorem d_Tl_commonRound_11 : decode b_Tl_commonRound 11 = .ok (.invokevirtual 40, 3) := by decide +kernel
theorem d_Tl_commonRound_14 : decode b_Tl_commonRound 14 = .ok (.ifCond .eq 5, 3) := by decide +kernel
theorem d_Tl_commonRound_17 : decode b_Tl_commonRound 17 = .ok (.iload_n 1, 1) := by decide +kernel
theorem d_Tl_commonRound_18 : decode b_Tl_commonRound 18 = .ok (.ireturn, 1) := by decide +kernel
theorem d_Tl_commonRound_19 : decode b_Tl_commonRound 19 = .ok (.iinc 1 1, 3) := by decide +kernel
theorem d_Tl_commonRound_22 : decode b_Tl_commonRound 22 = .ok (.goto (-20), 3) := by decide +kernel
theorem d_Tl_commonRound_25 : decode b_Tl_commonRound 25 = .ok (.bipush (-3), 2) := by decide +kernel
theorem d_Tl_commonRound_27 : decode b_Tl_commonRound 27 = .ok (.ireturn, 1) := by decide +kernel
theorem d_Tl_isCommonMultiple_0 : decode b_Tl_isCommonMultiple 0 = .ok (.iconst 0, 1) := by decide +kernel
theorem d_Tl_isCommonMultiple_1 : decode b_Tl_isCommonMultiple 1 = .ok (.istore_n 2, 1) := by decide +kernel
theorem d_Tl_isCommonMultiple_2 : decode b_Tl_isCommonMultiple 2 = .ok (.iload_n 2, 1) := by decide +kernel
theorem d_Tl_isCommonMultiple_3 : decode b_Tl_isCommonMultiple 3 = .ok (.aload_n 0, 1) := by decide +kernel
theorem d_Tl_isCommonMultiple_4 : decode b_Tl_isCommonMultiple 4 = .ok (.getfield 18, 3) := by decide +kernel
theorem d_Tl_isCommonMultiple_7 : decode b_Tl_isCommonMultiple 7 = .ok (.if_icmp .ge 25, 3) := by decide +kernel
theorem d_Tl_isCommonMultiple_10 : decode b_Tl_isCommonMultiple 10 = .ok (.iload_n 1, 1) := by decide +kernel
theorem d_Tl_isCommonMultiple_11 : decode b_Tl_isCommonMultiple 11 = .ok (.aload_n 0, 1) := by decide +kernel
theorem d_Tl_isCommonMultiple_12 : decode b_Tl_isCommonMultiple 12 = .ok (.getfield 11, 3) := by decide +kernel
theorem d_Tl_isCommonMultiple_15 : decode b_Tl_isCommonMultiple 15 = .ok (.iload_n 2, 1) := by decide +kernel
theorem d_Tl_isCommonMultiple_16 : decode b_Tl_isCommonMultiple 16 = .ok (.aaload, 1) := by decide +kernel
theorem d_Tl_isCommonMultiple_17 : decode b_Tl_isCommonMultiple 17 = .ok (.getfield 22, 3) := by decide +kernel
theorem d_Tl_isCommonMultiple_20 : decode b_Tl_isCommonMultiple 20 = .ok (.irem, 1) := by decide +kernel
theorem d_Tl_isCommonMultiple_21 : decode b_Tl_isCommonMultiple 21 = .ok (.ifCond .eq 5, 3) := by decide +kernel
theorem d_Tl_isCommonMultiple_24 : decode b_Tl_isCommonMultiple 24 = .ok (.iconst 0, 1) := by decide +kernel
theorem d_Tl_isCommonMultiple_25 : decode b_Tl_isCommonMultiple 25 = .ok (.ireturn, 1) := by decide +kernel
theorem d_Tl_isCommonMultiple_26 : decode b_Tl_isCommonMultiple 26 = .ok (.iinc 2 1, 3) := by decide +kernel
theorem d_Tl_isCommonMultiple_29 : decode b_Tl_isCommonMultiple 29 = .ok (.goto (-27), 3) := by decide +kernel
theorem d_Tl_isCommonMultiple_32 : decode b_Tl_isCommonMultiple 32 = .ok (.iconst 1, 1) := by decide +kernel
theorem d_Tl_isCommonMultiple_33 : decode b_Tl_isCommonMultiple 33 = .ok (.ireturn, 1) := by decide +kernel
theorem d_Ex_slots_0 : decode b_Ex_slots 0 = .ok (.aload_n 0, 1) := by decide +kernel
theorem d_Ex_slots_1 : decode b_Ex_slots 1 = .ok (.getfield 19, 3) := by decide +kernel
theorem d_Ex_slots_4 : decode b_Ex_slots 4 = .ok (.getfield 94, 3) := by decide +kernel
theorem d_Ex_slots_7 : decode b_Ex_slots 7 = .ok (.ireturn, 1) := by decide +kernel
theorem d_Ex_time_0 : decode b_Ex_time 0 = .ok (.aload_n 0, 1) := by decide +kernel
theorem d_Ex_time_1 : decode b_Ex_time 1 = .ok (.getfield 49, 3) := by decide +kernel
theorem d_Ex_time_4 : decode b_Ex_time 4 = .ok (.ireturn, 1) := by decide +kernel
theorem d_Ex_load_0 : decode b_Ex_load 0 = .ok (.aload_n 0, 1) := by decide +kernel
theorem d_Ex_load_1 : decode b_Ex_load 1 = .ok (.invokevirtual 52, 3) := by decide +kernel
theorem d_Ex_load_4 : decode b_Ex_load 4 = .ok (.iload_n 1, 1) := by decide +kernel
theorem d_Ex_load_5 : decode b_Ex_load 5 = .ok (.bipush 64, 2) := by decide +kernel
theorem d_Ex_load_7 : decode b_Ex_load 7 = .ok (.invokestatic 55, 3) := by decide +kernel
theorem d_Ex_load_10 : decode b_Ex_load 10 = .ok (.aload_n 0, 1) := by decide +kernel
theorem d_Ex_load_11 : decode b_Ex_load 11 = .ok (.getfield 33, 3) := by decide +kernel
theorem d_Ex_load_14 : decode b_Ex_load 14 = .ok (.getfield 59, 3) := by decide +kernel
theorem d_Ex_load_17 : decode b_Ex_load 17 = .ok (.iload_n 1, 1) := by decide +kernel
theorem d_Ex_load_18 : decode b_Ex_load 18 = .ok (.iload_n 2, 1) := by decide +kernel
theorem d_Ex_load_19 : decode b_Ex_load 19 = .ok (.iastore, 1) := by decide +kernel
theorem d_Ex_load_20 : decode b_Ex_load 20 = .ok (.return_, 1) := by decide +kernel
theorem d_Ex_needEdit_0 : decode b_Ex_needEdit 0 = .ok (.aload_n 0, 1) := by decide +kernel
theorem d_Ex_needEdit_1 : decode b_Ex_needEdit 1 = .ok (.getfield 41, 3) := by decide +kernel
theorem d_Ex_needEdit_4 : decode b_Ex_needEdit 4 = .ok (.ifCond .eq 13, 3) := by decide +kernel
theorem d_Ex_needEdit_7 : decode b_Ex_needEdit 7 = .ok (.new 65, 3) := by decide +kernel
theorem d_Ex_needEdit_10 : decode b_Ex_needEdit 10 = .ok (.dup, 1) := by decide +kernel
theorem d_Ex_needEdit_11 : decode b_Ex_needEdit 11 = .ok (.ldc 148, 2) := by decide +kernel
theorem d_Ex_needEdit_13 : decode b_Ex_needEdit 13 = .ok (.invokespecial 69, 3) := by decide +kernel
theorem d_Ex_needEdit_16 : decode b_Ex_needEdit 16 = .ok (.athrow, 1) := by decide +kernel
theorem d_Ex_needEdit_17 : decode b_Ex_needEdit 17 = .ok (.return_, 1) := by decide +kernel
theorem d_Ex_needIndex_0 : decode b_Ex_needIndex 0 = .ok (.iload_n 0, 1) := by decide +kernel
theorem d_Ex_needIndex_1 : decode b_Ex_needIndex 1 = .ok (.ifCond .lt 8, 3) := by decide +kernel
theorem d_Ex_needIndex_4 : decode b_Ex_needIndex 4 = .ok (.iload_n 0, 1) := by decide +kernel
theorem d_Ex_needIndex_5 : decode b_Ex_needIndex 5 = .ok (.iload_n 1, 1) := by decide +kernel
theorem d_Ex_needIndex_6 : decode b_Ex_needIndex 6 = .ok (.if_icmp .lt 13, 3) := by decide +kernel
theorem d_Ex_needIndex_9 : decode b_Ex_needIndex 9 = .ok (.new 152, 3) := by decide +kernel
theorem d_Ex_needIndex_12 : decode b_Ex_needIndex 12 = .ok (.dup, 1) := by decide +kernel
theorem d_Ex_needIndex_13 : decode b_Ex_needIndex 13 = .ok (.ldc 154, 2) := by decide +kernel
theorem d_Ex_needIndex_15 : decode b_Ex_needIndex 15 = .ok (.invokespecial 156, 3) := by decide +kernel
theorem d_Ex_needIndex_18 : decode b_Ex_needIndex 18 = .ok (.athrow, 1) := by decide +kernel
theorem d_Ex_needIndex_19 : decode b_Ex_needIndex 19 = .ok (.return_, 1) := by decide +kernel
theorem d_Ex_task_0 : decode b_Ex_task 0 = .ok (.aload_n 0, 1) := by decide +kernel
theorem d_Ex_task_1 : decode b_Ex_task 1 = .ok (.invokevirtual 52, 3) := by decide +kernel
theorem d_Ex_task_4 : decode b_Ex_task 4 = .ok (.aload_n 0, 1) := by decide +kernel
theorem d_Ex_task_5 : decode b_Ex_task 5 = .ok (.getfield 10, 3) := by decide +kernel
theorem d_Ex_task_8 : decode b_Ex_task 8 = .ok (.getfield 62, 3) := by decide +kernel
theorem d_Ex_task_11 : decode b_Ex_task 11 = .ok (.bipush 6, 2) := by decide +kernel
theorem d_Ex_task_13 : decode b_Ex_task 13 = .ok (.if_icmp .ne 13, 3) := by decide +kernel
theorem d_Ex_task_16 : decode b_Ex_task 16 = .ok (.new 65, 3) := by decide +kernel
theorem d_Ex_task_19 : decode b_Ex_task 19 = .ok (.dup, 1) := by decide +kernel
theorem d_Ex_task_20 : decode b_Ex_task 20 = .ok (.ldc 67, 2) := by decide +kernel
theorem d_Ex_task_22 : decode b_Ex_task 22 = .ok (.invokespecial 69, 3) := by decide +kernel
theorem d_Ex_task_25 : decode b_Ex_task 25 = .ok (.athrow, 1) := by decide +kernel
theorem d_Ex_task_26 : decode b_Ex_task 26 = .ok (.iload_n 1, 1) := by decide +kernel
theorem d_Ex_task_27 : decode b_Ex_task 27 = .ok (.iload_n 2, 1) := by decide +kernel
theorem d_Ex_task_28 : decode b_Ex_task 28 = .ok (.iload_n 3, 1) := by decide +kernel
theorem d_Ex_task_29 : decode b_Ex_task 29 = .ok (.iload 4, 2) := by decide +kernel
theorem d_Ex_task_31 : decode b_Ex_task 31 = .ok (.invokestatic 72, 3) := by decide +kernel
theorem d_Ex_task_34 : decode b_Ex_task 34 = .ok (.ifCond .ne 13, 3) := by decide +kernel
theorem d_Ex_task_37 : decode b_Ex_task 37 = .ok (.new 76, 3) := by decide +kernel
theorem d_Ex_task_40 : decode b_Ex_task 40 = .ok (.dup, 1) := by decide +kernel
theorem d_Ex_task_41 : decode b_Ex_task 41 = .ok (.ldc 78, 2) := by decide +kernel
theorem d_Ex_task_43 : decode b_Ex_task 43 = .ok (.invokespecial 80, 3) := by decide +kernel
theorem d_Ex_task_46 : decode b_Ex_task 46 = .ok (.athrow, 1) := by decide +kernel
theorem d_Ex_task_47 : decode b_Ex_task 47 = .ok (.aload_n 0, 1) := by decide +kernel
theorem d_Ex_task_48 : decode b_Ex_task 48 = .ok (.getfield 10, 3) := by decide +kernel
theorem d_Ex_task_51 : decode b_Ex_task 51 = .ok (.iload_n 1, 1) := by decide +kernel
theorem d_Ex_task_52 : decode b_Ex_task 52 = .ok (.iload_n 2, 1) := by decide +kernel
theorem d_Ex_task_53 : decode b_Ex_task 53 = .ok (.iload_n 3, 1) := by decide +kernel
theorem d_Ex_task_54 : decode b_Ex_task 54 = .ok (.iload 4, 2) := by decide +kernel
theorem d_Ex_task_56 : decode b_Ex_task 56 = .ok (.invokevirtual 81, 3) := by decide +kernel
theorem d_Ex_task_59 : decode b_Ex_task 59 = .ok (.ireturn, 1) := by decide +kernel
theorem d_Ex_isTask_0 : decode b_Ex_isTask 0 = .ok (.iload_n 0, 1) := by decide +kernel
theorem d_Ex_isTask_1 : decode b_Ex_isTask 1 = .ok (.iconst 1, 1) := by decide +kernel
theorem d_Ex_isTask_2 : decode b_Ex_isTask 2 = .ok (.if_icmp .lt 38, 3) := by decide +kernel
theorem d_Ex_isTask_5 : decode b_Ex_isTask 5 = .ok (.iload_n 0, 1) := by decide +kernel
theorem d_Ex_isTask_6 : decode b_Ex_isTask 6 = .ok (.bipush 48, 2) := by decide +kernel
theorem d_Ex_isTask_8 : decode b_Ex_isTask 8 = .ok (.if_icmp .gt 32, 3) := by decide +kernel
theorem d_Ex_isTask_11 : decode b_Ex_isTask 11 = .ok (.iload_n 1, 1) := by decide +kernel
theorem d_Ex_isTask_12 : decode b_Ex_isTask 12 = .ok (.iconst 1, 1) := by decide +kernel
theorem d_Ex_isTask_13 : decode b_Ex_isTask 13 = .ok (.if_icmp .lt 27, 3) := by decide +kernel
theorem d_Ex_isTask_16 : decode b_Ex_isTask 16 = .ok (.iload_n 1, 1) := by decide +kernel
theorem d_Ex_isTask_17 : decode b_Ex_isTask 17 = .ok (.iload_n 2, 1) := by decide +kernel
theorem d_Ex_isTask_18 : decode b_Ex_isTask 18 = .ok (.if_icmp .gt 22, 3) := by decide +kernel
theorem d_Ex_isTask_21 : decode b_Ex_isTask 21 = .ok (.iload_n 2, 1) := by decide +kernel
theorem d_Ex_isTask_22 : decode b_Ex_isTask 22 = .ok (.iload_n 0, 1) := by decide +kernel
theorem d_Ex_isTask_23 : decode b_Ex_isTask 23 = .ok (.if_icmp .gt 17, 3) := by decide +kernel
theorem d_Ex_isTask_26 : decode b_Ex_isTask 26 = .ok (.iload_n 3, 1) := by decide +kernel
theorem d_Ex_isTask_27 : decode b_Ex_isTask 27 = .ok (.ifCond .lt 13, 3) := by decide +kernel
theorem d_Ex_isTask_30 : decode b_Ex_isTask 30 = .ok (.iload_n 3, 1) := by decide +kernel
theorem d_Ex_isTask_31 : decode b_Ex_isTask 31 = .ok (.bipush 48, 2) := by decide +kernel
theorem d_Ex_isTask_33 : decode b_Ex_isTask 33 = .ok (.if_icmp .gt 7, 3) := by decide +kernel
theorem d_Ex_isTask_36 : decode b_Ex_isTask 36 = .ok (.iconst 1, 1) := by decide +kernel
theorem d_Ex_isTask_37 : decode b_Ex_isTask 37 = .ok (.goto 4, 3) := by decide +kernel
theorem d_Ex_isTask_40 : decode b_Ex_isTask 40 = .ok (.iconst 0, 1) := by decide +kernel
theorem d_Ex_isTask_41 : decode b_Ex_isTask 41 = .ok (.ireturn, 1) := by decide +kernel
theorem d_Tl_append_0 : decode b_Tl_append 0 = .ok (.aload_n 0, 1) := by decide +kernel
theorem d_Tl_append_1 : decode b_Tl_append 1 = .ok (.getfield 11, 3) := by decide +kernel
theorem d_Tl_append_4 : decode b_Tl_append 4 = .ok (.aload_n 0, 1) := by decide +kernel
theorem d_Tl_append_5 : decode b_Tl_append 5 = .ok (.getfield 18, 3) := by decide +kernel
theorem d_Tl_append_8 : decode b_Tl_append 8 = .ok (.aaload, 1) := by decide +kernel
theorem d_Tl_append_9 : decode b_Tl_append 9 = .ok (.astore 5, 2) := by decide +kernel
theorem d_Tl_append_11 : decode b_Tl_append 11 = .ok (.aload 5, 2) := by decide +kernel
theorem d_Tl_append_13 : decode b_Tl_append 13 = .ok (.iload_n 1, 1) := by decide +kernel
theorem d_Tl_append_14 : decode b_Tl_append 14 = .ok (.putfield 22, 3) := by decide +kernel
theorem d_Tl_append_17 : decode b_Tl_append 17 = .ok (.aload 5, 2) := by decide +kernel
theorem d_Tl_append_19 : decode b_Tl_append 19 = .ok (.iload_n 2, 1) := by decide +kernel
theorem d_Tl_append_20 : decode b_Tl_append 20 = .ok (.putfield 25, 3) := by decide +kernel
theorem d_Tl_append_23 : decode b_Tl_append 23 = .ok (.aload 5, 2) := by decide +kernel
theorem d_Tl_append_25 : decode b_Tl_append 25 = .ok (.iload_n 3, 1) := by decide +kernel
theorem d_Tl_append_26 : decode b_Tl_append 26 = .ok (.putfield 28, 3) := by decide +kernel
theorem d_Tl_append_29 : decode b_Tl_append 29 = .ok (.aload 5, 2) := by decide +kernel
theorem d_Tl_append_31 : decode b_Tl_append 31 = .ok (.iload 4, 2) := by decide +kernel
theorem d_Tl_append_33 : decode b_Tl_append 33 = .ok (.putfield 31, 3) := by decide +kernel
theorem d_Tl_append_36 : decode b_Tl_append 36 = .ok (.aload 5, 2) := by decide +kernel
theorem d_Tl_append_38 : decode b_Tl_append 38 = .ok (.bipush 8, 2) := by decide +kernel
theorem d_Tl_append_40 : decode b_Tl_append 40 = .ok (.aload_n 0, 1) := by decide +kernel
theorem d_Tl_append_41 : decode b_Tl_append 41 = .ok (.getfield 18, 3) := by decide +kernel
theorem d_Tl_append_44 : decode b_Tl_append 44 = .ok (.imul, 1) := by decide +kernel
theorem d_Tl_append_45 : decode b_Tl_append 45 = .ok (.putfield 34, 3) := by decide +kernel
theorem d_Tl_append_48 : decode b_Tl_append 48 = .ok (.aload 5, 2) := by decide +kernel
theorem d_Tl_append_50 : decode b_Tl_append 50 = .ok (.invokevirtual 37, 3) := by decide +kernel
theorem d_Tl_append_53 : decode b_Tl_append 53 = .ok (.aload_n 0, 1) := by decide +kernel
theorem d_Tl_append_54 : decode b_Tl_append 54 = .ok (.dup, 1) := by decide +kernel
theorem d_Tl_append_55 : decode b_Tl_append 55 = .ok (.getfield 18, 3) := by decide +kernel
theorem d_Tl_append_58 : decode b_Tl_append 58 = .ok (.iconst 1, 1) := by decide +kernel
theorem d_Tl_append_59 : decode b_Tl_append 59 = .ok (.iadd, 1) := by decide +kernel
theorem d_Tl_append_60 : decode b_Tl_append 60 = .ok (.putfield 18, 3) := by decide +kernel
theorem d_Tl_append_63 : decode b_Tl_append 63 = .ok (.aload_n 0, 1) := by decide +kernel
theorem d_Tl_append_64 : decode b_Tl_append 64 = .ok (.getfield 18, 3) := by decide +kernel
theorem d_Tl_append_67 : decode b_Tl_append 67 = .ok (.iconst 1, 1) := by decide +kernel
theorem d_Tl_append_68 : decode b_Tl_append 68 = .ok (.isub, 1) := by decide +kernel
theorem d_Tl_append_69 : decode b_Tl_append 69 = .ok (.ireturn, 1) := by decide +kernel
theorem d_Tk_forgetRun_0 : decode b_Tk_forgetRun 0 = .ok (.aload_n 0, 1) := by decide +kernel
theorem d_Tk_forgetRun_1 : decode b_Tk_forgetRun 1 = .ok (.getfield 18, 3) := by decide +kernel
theorem d_Tk_forgetRun_4 : decode b_Tk_forgetRun 4 = .ok (.iconst 0, 1) := by decide +kernel
theorem d_Tk_forgetRun_5 : decode b_Tk_forgetRun 5 = .ok (.putfield 29, 3) := by decide +kernel
theorem d_Tk_forgetRun_8 : decode b_Tk_forgetRun 8 = .ok (.aload_n 0, 1) := by decide +kernel
theorem d_Tk_forgetRun_9 : decode b_Tk_forgetRun 9 = .ok (.getfield 22, 3) := by decide +kernel
theorem d_Tk_forgetRun_12 : decode b_Tk_forgetRun 12 = .ok (.iconst 0, 1) := by decide +kernel
theorem d_Tk_forgetRun_13 : decode b_Tk_forgetRun 13 = .ok (.invokestatic 33, 3) := by decide +kernel
theorem d_Tk_forgetRun_16 : decode b_Tk_forgetRun 16 = .ok (.return_, 1) := by decide +kernel
theorem d_Ar_fill_0 : decode b_Ar_fill 0 = .ok (.iconst 0, 1) := by decide +kernel
theorem d_Ar_fill_1 : decode b_Ar_fill 1 = .ok (.istore_n 2, 1) := by decide +kernel
theorem d_Ar_fill_2 : decode b_Ar_fill 2 = .ok (.aload_n 0, 1) := by decide +kernel
theorem d_Ar_fill_3 : decode b_Ar_fill 3 = .ok (.arraylength, 1) := by decide +kernel
theorem d_Ar_fill_4 : decode b_Ar_fill 4 = .ok (.istore_n 3, 1) := by decide +kernel
theorem d_Ar_fill_5 : decode b_Ar_fill 5 = .ok (.iload_n 2, 1) := by decide +kernel
theorem d_Ar_fill_6 : decode b_Ar_fill 6 = .ok (.iload_n 3, 1) := by decide +kernel
theorem d_Ar_fill_7 : decode b_Ar_fill 7 = .ok (.if_icmp .ge 13, 3) := by decide +kernel
theorem d_Ar_fill_10 : decode b_Ar_fill 10 = .ok (.aload_n 0, 1) := by decide +kernel
theorem d_Ar_fill_11 : decode b_Ar_fill 11 = .ok (.iload_n 2, 1) := by decide +kernel
theorem d_Ar_fill_12 : decode b_Ar_fill 12 = .ok (.iload_n 1, 1) := by decide +kernel
theorem d_Ar_fill_13 : decode b_Ar_fill 13 = .ok (.iastore, 1) := by decide +kernel
theorem d_Ar_fill_14 : decode b_Ar_fill 14 = .ok (.iinc 2 1, 3) := by decide +kernel
theorem d_Ar_fill_17 : decode b_Ar_fill 17 = .ok (.goto (-12), 3) := by decide +kernel
theorem d_Ar_fill_20 : decode b_Ar_fill 20 = .ok (.return_, 1) := by decide +kernel
theorem d_Ex_entry_0 : decode b_Ex_entry 0 = .ok (.aload_n 0, 1) := by decide +kernel
theorem d_Ex_entry_1 : decode b_Ex_entry 1 = .ok (.invokevirtual 52, 3) := by decide +kernel
theorem d_Ex_entry_4 : decode b_Ex_entry 4 = .ok (.iload_n 1, 1) := by decide +kernel
theorem d_Ex_entry_5 : decode b_Ex_entry 5 = .ok (.aload_n 0, 1) := by decide +kernel
theorem d_Ex_entry_6 : decode b_Ex_entry 6 = .ok (.getfield 10, 3) := by decide +kernel
theorem d_Ex_entry_9 : decode b_Ex_entry 9 = .ok (.getfield 62, 3) := by decide +kernel
theorem d_Ex_entry_12 : decode b_Ex_entry 12 = .ok (.invokestatic 55, 3) := by decide +kernel
theorem d_Ex_entry_15 : decode b_Ex_entry 15 = .ok (.iload_n 2, 1) := by decide +kernel
theorem d_Ex_entry_16 : decode b_Ex_entry 16 = .ok (.bipush 64, 2) := by decide +kernel
theorem d_Ex_entry_18 : decode b_Ex_entry 18 = .ok (.invokestatic 55, 3) := by decide +kernel
theorem d_Ex_entry_21 : decode b_Ex_entry 21 = .ok (.aload_n 0, 1) := by decide +kernel
theorem d_Ex_entry_22 : decode b_Ex_entry 22 = .ok (.getfield 10, 3) := by decide +kernel
theorem d_Ex_entry_25 : decode b_Ex_entry 25 = .ok (.getfield 85, 3) := by decide +kernel
theorem d_Ex_entry_28 : decode b_Ex_entry 28 = .ok (.iload_n 1, 1) := by decide +kernel
theorem d_Ex_entry_29 : decode b_Ex_entry 29 = .ok (.aaload, 1) := by decide +kernel
theorem d_Ex_entry_30 : decode b_Ex_entry 30 = .ok (.iload_n 2, 1) := by decide +kernel
theorem d_Ex_entry_31 : decode b_Ex_entry 31 = .ok (.putfield 89, 3) := by decide +kernel
theorem d_Ex_entry_34 : decode b_Ex_entry 34 = .ok (.return_, 1) := by decide +kernel
theorem d_Ex_clear_0 : decode b_Ex_clear 0 = .ok (.aload_n 0, 1) := by decide +kernel
theorem d_Ex_clear_1 : decode b_Ex_clear 1 = .ok (.invokevirtual 52, 3) := by decide +kernel
theorem d_Ex_clear_4 : decode b_Ex_clear 4 = .ok (.aload_n 0, 1) := by decide +kernel
theorem d_Ex_clear_5 : decode b_Ex_clear 5 = .ok (.getfield 10, 3) := by decide +kernel
theorem d_Ex_clear_8 : decode b_Ex_clear 8 = .ok (.iconst 0, 1) := by decide +kernel
theorem d_Ex_clear_9 : decode b_Ex_clear 9 = .ok (.putfield 62, 3) := by decide +kernel
theorem d_Ex_clear_12 : decode b_Ex_clear 12 = .ok (.aload_n 0, 1) := by decide +kernel
theorem d_Ex_clear_13 : decode b_Ex_clear 13 = .ok (.getfield 19, 3) := by decide +kernel
theorem d_Ex_clear_16 : decode b_Ex_clear 16 = .ok (.iconst 0, 1) := by decide +kernel
theorem d_Ex_clear_17 : decode b_Ex_clear 17 = .ok (.putfield 94, 3) := by decide +kernel
theorem d_Ex_clear_20 : decode b_Ex_clear 20 = .ok (.return_, 1) := by decide +kernel
theorem d_Ex_synthesize_0 : decode b_Ex_synthesize 0 = .ok (.aload_n 0, 1) := by decide +kernel
theorem d_Ex_synthesize_1 : decode b_Ex_synthesize 1 = .ok (.invokevirtual 52, 3) := by decide +kernel
theorem d_Ex_synthesize_4 : decode b_Ex_synthesize 4 = .ok (.aload_n 0, 1) := by decide +kernel
theorem d_Ex_synthesize_5 : decode b_Ex_synthesize 5 = .ok (.getfield 19, 3) := by decide +kernel
theorem d_Ex_synthesize_8 : decode b_Ex_synthesize 8 = .ok (.iconst 0, 1) := by decide +kernel
theorem d_Ex_synthesize_9 : decode b_Ex_synthesize 9 = .ok (.putfield 94, 3) := by decide +kernel
theorem d_Ex_synthesize_12 : decode b_Ex_synthesize 12 = .ok (.aload_n 0, 1) := by decide +kernel
theorem d_Ex_synthesize_13 : decode b_Ex_synthesize 13 = .ok (.getfield 10, 3) := by decide +kernel
theorem d_Ex_synthesize_16 : decode b_Ex_synthesize 16 = .ok (.invokevirtual 95, 3) := by decide +kernel
theorem d_Ex_synthesize_19 : decode b_Ex_synthesize 19 = .ok (.istore_n 1, 1) := by decide +kernel
theorem d_Ex_synthesize_20 : decode b_Ex_synthesize 20 = .ok (.iload_n 1, 1) := by decide +kernel
theorem d_Ex_synthesize_21 : decode b_Ex_synthesize 21 = .ok (.bipush (-3), 2) := by decide +kernel
theorem d_Ex_synthesize_23 : decode b_Ex_synthesize 23 = .ok (.if_icmp .ne 6, 3) := by decide +kernel
theorem d_Ex_synthesize_26 : decode b_Ex_synthesize 26 = .ok (.bipush (-3), 2) := by decide +kernel
theorem d_Ex_synthesize_28 : decode b_Ex_synthesize 28 = .ok (.ireturn, 1) := by decide +kernel
theorem d_Ex_synthesize_29 : decode b_Ex_synthesize 29 = .ok (.aload_n 0, 1) := by decide +kernel
theorem d_Ex_synthesize_30 : decode b_Ex_synthesize 30 = .ok (.getfield 26, 3) := by decide +kernel
theorem d_Ex_synthesize_33 : decode b_Ex_synthesize 33 = .ok (.aload_n 0, 1) := by decide +kernel
theorem d_Ex_synthesize_34 : decode b_Ex_synthesize 34 = .ok (.getfield 10, 3) := by decide +kernel
theorem d_Ex_synthesize_37 : decode b_Ex_synthesize 37 = .ok (.aload_n 0, 1) := by decide +kernel
theorem d_Ex_synthesize_38 : decode b_Ex_synthesize 38 = .ok (.getfield 37, 3) := by decide +kernel
theorem d_Ex_synthesize_41 : decode b_Ex_synthesize 41 = .ok (.iload_n 1, 1) := by decide +kernel
theorem d_Ex_synthesize_42 : decode b_Ex_synthesize 42 = .ok (.invokevirtual 99, 3) := by decide +kernel
theorem d_Ex_synthesize_45 : decode b_Ex_synthesize 45 = .ok (.ifCond .ne 6, 3) := by decide +kernel
theorem d_Ex_synthesize_48 : decode b_Ex_synthesize 48 = .ok (.bipush (-2), 2) := by decide +kernel
theorem d_Ex_synthesize_50 : decode b_Ex_synthesize 50 = .ok (.ireturn, 1) := by decide +kernel
theorem d_Ex_synthesize_51 : decode b_Ex_synthesize 51 = .ok (.aload_n 0, 1) := by decide +kernel
theorem d_Ex_synthesize_52 : decode b_Ex_synthesize 52 = .ok (.getfield 19, 3) := by decide +kernel
theorem d_Ex_synthesize_55 : decode b_Ex_synthesize 55 = .ok (.aload_n 0, 1) := by decide +kernel
theorem d_Ex_synthesize_56 : decode b_Ex_synthesize 56 = .ok (.getfield 37, 3) := by decide +kernel
theorem d_Ex_synthesize_59 : decode b_Ex_synthesize 59 = .ok (.iload_n 1, 1) := by decide +kernel
theorem d_Ex_synthesize_60 : decode b_Ex_synthesize 60 = .ok (.invokevirtual 103, 3) := by decide +kernel
theorem d_Ex_synthesize_63 : decode b_Ex_synthesize 63 = .ok (.ifCond .eq 13, 3) := by decide +kernel
theorem d_Ex_synthesize_66 : decode b_Ex_synthesize 66 = .ok (.aload_n 0, 1) := by decide +kernel
theorem d_Ex_synthesize_67 : decode b_Ex_synthesize 67 = .ok (.getfield 19, 3) := by decide +kernel
theorem d_Ex_synthesize_70 : decode b_Ex_synthesize 70 = .ok (.getfield 94, 3) := by decide +kernel
theorem d_Ex_synthesize_73 : decode b_Ex_synthesize 73 = .ok (.goto 5, 3) := by decide +kernel
theorem d_Ex_synthesize_76 : decode b_Ex_synthesize 76 = .ok (.bipush (-3), 2) := by decide +kernel
theorem d_Ex_synthesize_78 : decode b_Ex_synthesize 78 = .ok (.ireturn, 1) := by decide +kernel
theorem d_Pl_plan_0 : decode b_Pl_plan 0 = .ok (.aload_n 1, 1) := by decide +kernel
theorem d_Pl_plan_1 : decode b_Pl_plan 1 = .ok (.iload_n 3, 1) := by decide +kernel
theorem d_Pl_plan_2 : decode b_Pl_plan 2 = .ok (.invokevirtual 18, 3) := by decide +kernel
theorem d_Pl_plan_5 : decode b_Pl_plan 5 = .ok (.iload_n 3, 1) := by decide +kernel
theorem d_Pl_plan_6 : decode b_Pl_plan 6 = .ok (.if_icmp .le 5, 3) := by decide +kernel
theorem d_Pl_plan_9 : decode b_Pl_plan 9 = .ok (.iconst 0, 1) := by decide +kernel
theorem d_Pl_plan_10 : decode b_Pl_plan 10 = .ok (.ireturn, 1) := by decide +kernel
theorem d_Pl_plan_11 : decode b_Pl_plan 11 = .ok (.aload_n 0, 1) := by decide +kernel
theorem d_Pl_plan_12 : decode b_Pl_plan 12 = .ok (.getfield 9, 3) := by decide +kernel
theorem d_Pl_plan_15 : decode b_Pl_plan 15 = .ok (.iconst 0, 1) := by decide +kernel
theorem d_Pl_plan_16 : decode b_Pl_plan 16 = .ok (.invokestatic 24, 3) := by decide +kernel
theorem d_Pl_plan_19 : decode b_Pl_plan 19 = .ok (.aload_n 1, 1) := by decide +kernel
theorem d_Pl_plan_20 : decode b_Pl_plan 20 = .ok (.invokevirtual 30, 3) := by decide +kernel
theorem d_Pl_plan_23 : decode b_Pl_plan 23 = .ok (.iload_n 3, 1) := by decide +kernel
theorem d_Pl_plan_24 : decode b_Pl_plan 24 = .ok (.iadd, 1) := by decide +kernel
theorem d_Pl_plan_25 : decode b_Pl_plan 25 = .ok (.istore 4, 2) := by decide +kernel
theorem d_Pl_plan_27 : decode b_Pl_plan 27 = .ok (.iconst 0, 1) := by decide +kernel
theorem d_Pl_plan_28 : decode b_Pl_plan 28 = .ok (.istore 5, 2) := by decide +kernel
theorem d_Pl_plan_30 : decode b_Pl_plan 30 = .ok (.iload 5, 2) := by decide +kernel
theorem d_Pl_plan_32 : decode b_Pl_plan 32 = .ok (.iload 4, 2) := by decide +kernel
theorem d_Pl_plan_34 : decode b_Pl_plan 34 = .ok (.iload_n 3, 1) := by decide +kernel
theorem d_Pl_plan_35 : decode b_Pl_plan 35 = .ok (.iadd, 1) := by decide +kernel
theorem d_Pl_plan_36 : decode b_Pl_plan 36 = .ok (.if_icmp .ge 75, 3) := by decide +kernel
theorem d_Pl_plan_39 : decode b_Pl_plan 39 = .ok (.aload_n 0, 1) := by decide +kernel
theorem d_Pl_plan_40 : decode b_Pl_plan 40 = .ok (.aload_n 1, 1) := by decide +kernel
theorem d_Pl_plan_41 : decode b_Pl_plan 41 = .ok (.iload 5, 2) := by decide +kernel
theorem d_Pl_plan_43 : decode b_Pl_plan 43 = .ok (.invokevirtual 34, 3) := by decide +kernel
theorem d_Pl_plan_46 : decode b_Pl_plan 46 = .ok (.aload_n 0, 1) := by decide +kernel
theorem d_Pl_plan_47 : decode b_Pl_plan 47 = .ok (.aload_n 1, 1) := by decide +kernel
theorem d_Pl_plan_48 : decode b_Pl_plan 48 = .ok (.getfield 38, 3) := by decide +kernel
theorem d_Pl_plan_51 : decode b_Pl_plan 51 = .ok (.invokevirtual 42, 3) := by decide +kernel
theorem d_Pl_plan_54 : decode b_Pl_plan 54 = .ok (.istore 6, 2) := by decide +kernel
theorem d_Pl_plan_56 : decode b_Pl_plan 56 = .ok (.iload 6, 2) := by decide +kernel
theorem d_Pl_plan_58 : decode b_Pl_plan 58 = .ok (.iconst (-1), 1) := by decide +kernel
theorem d_Pl_plan_59 : decode b_Pl_plan 59 = .ok (.if_icmp .eq 14, 3) := by decide +kernel
theorem d_Pl_plan_62 : decode b_Pl_plan 62 = .ok (.aload_n 0, 1) := by decide +kernel
theorem d_Pl_plan_63 : decode b_Pl_plan 63 = .ok (.getfield 9, 3) := by decide +kernel
theorem d_Pl_plan_66 : decode b_Pl_plan 66 = .ok (.iload 6, 2) := by decide +kernel
theorem d_Pl_plan_68 : decode b_Pl_plan 68 = .ok (.dup2, 1) := by decide +kernel
theorem d_Pl_plan_69 : decode b_Pl_plan 69 = .ok (.iaload, 1) := by decide +kernel
theorem d_Pl_plan_70 : decode b_Pl_plan 70 = .ok (.iconst 1, 1) := by decide +kernel
theorem d_Pl_plan_71 : decode b_Pl_plan 71 = .ok (.isub, 1) := by decide +kernel
theorem d_Pl_plan_72 : decode b_Pl_plan 72 = .ok (.iastore, 1) := by decide +kernel
theorem d_Pl_plan_73 : decode b_Pl_plan 73 = .ok (.iload 5, 2) := by decide +kernel
theorem d_Pl_plan_75 : decode b_Pl_plan 75 = .ok (.iload 4, 2) := by decide +kernel
theorem d_Pl_plan_77 : decode b_Pl_plan 77 = .ok (.if_icmp .lt 11, 3) := by decide +kernel
theorem d_Pl_plan_80 : decode b_Pl_plan 80 = .ok (.aload_n 2, 1) := by decide +kernel
theorem d_Pl_plan_81 : decode b_Pl_plan 81 = .ok (.iload 5, 2) := by decide +kernel
theorem d_Pl_plan_83 : decode b_Pl_plan 83 = .ok (.iload_n 3, 1) := by decide +kernel
theorem d_Pl_plan_84 : decode b_Pl_plan 84 = .ok (.irem, 1) := by decide +kernel
theorem d_Pl_plan_85 : decode b_Pl_plan 85 = .ok (.iload 6, 2) := by decide +kernel
theorem d_Pl_plan_87 : decode b_Pl_plan 87 = .ok (.iastore, 1) := by decide +kernel
theorem d_Pl_plan_88 : decode b_Pl_plan 88 = .ok (.aload_n 0, 1) := by decide +kernel
theorem d_Pl_plan_89 : decode b_Pl_plan 89 = .ok (.aload_n 1, 1) := by decide +kernel
theorem d_Pl_plan_90 : decode b_Pl_plan 90 = .ok (.getfield 38, 3) := by decide +kernel
theorem d_Pl_plan_93 : decode b_Pl_plan 93 = .ok (.iload 5, 2) := by decide +kernel
theorem d_Pl_plan_95 : decode b_Pl_plan 95 = .ok (.iconst 1, 1) := by decide +kernel
theorem d_Pl_plan_96 : decode b_Pl_plan 96 = .ok (.iadd, 1) := by decide +kernel
theorem d_Pl_plan_97 : decode b_Pl_plan 97 = .ok (.invokevirtual 45, 3) := by decide +kernel
theorem d_Pl_plan_100 : decode b_Pl_plan 100 = .ok (.ifCond .eq 5, 3) := by decide +kernel
theorem d_Pl_plan_103 : decode b_Pl_plan 103 = .ok (.iconst 0, 1) := by decide +kernel
theorem d_Pl_plan_104 : decode b_Pl_plan 104 = .ok (.ireturn, 1) := by decide +kernel
theorem d_Pl_plan_105 : decode b_Pl_plan 105 = .ok (.iinc 5 1, 3) := by decide +kernel
theorem d_Pl_plan_108 : decode b_Pl_plan 108 = .ok (.goto (-78), 3) := by decide +kernel
theorem d_Pl_plan_111 : decode b_Pl_plan 111 = .ok (.iconst 1, 1) := by decide +kernel
theorem d_Pl_plan_112 : decode b_Pl_plan 112 = .ok (.ireturn, 1) := by decide +kernel
theorem d_Tl_workInRound_0 : decode b_Tl_workInRound 0 = .ok (.iconst 0, 1) := by decide +kernel
theorem d_Tl_workInRound_1 : decode b_Tl_workInRound 1 = .ok (.istore_n 2, 1) := by decide +kernel
theorem d_Tl_workInRound_2 : decode b_Tl_workInRound 2 = .ok (.iconst 0, 1) := by decide +kernel
theorem d_Tl_workInRound_3 : decode b_Tl_workInRound 3 = .ok (.istore_n 3, 1) := by decide +kernel
theorem d_Tl_workInRound_4 : decode b_Tl_workInRound 4 = .ok (.iload_n 3, 1) := by decide +kernel
theorem d_Tl_workInRound_5 : decode b_Tl_workInRound 5 = .ok (.aload_n 0, 1) := by decide +kernel
theorem d_Tl_workInRound_6 : decode b_Tl_workInRound 6 = .ok (.getfield 18, 3) := by decide +kernel
theorem d_Tl_workInRound_9 : decode b_Tl_workInRound 9 = .ok (.if_icmp .ge 33, 3) := by decide +kernel
theorem d_Tl_workInRound_12 : decode b_Tl_workInRound 12 = .ok (.iload_n 2, 1) := by decide +kernel
theorem d_Tl_workInRound_13 : decode b_Tl_workInRound 13 = .ok (.aload_n 0, 1) := by decide +kernel
theorem d_Tl_workInRound_14 : decode b_Tl_workInRound 14 = .ok (.getfield 11, 3) := by decide +kernel
theorem d_Tl_workInRound_17 : decode b_Tl_workInRound 17 = .ok (.iload_n 3, 1) := by decide +kernel
theorem d_Tl_workInRound_18 : decode b_Tl_workInRound 18 = .ok (.aaload, 1) := by decide +kernel
theorem d_Tl_workInRound_19 : decode b_Tl_workInRound 19 = .ok (.getfield 25, 3) := by decide +kernel
theorem d_Tl_workInRound_22 : decode b_Tl_workInRound 22 = .ok (.iload_n 1, 1) := by decide +kernel
theorem d_Tl_workInRound_23 : decode b_Tl_workInRound 23 = .ok (.aload_n 0, 1) := by decide +kernel
theorem d_Tl_workInRound_24 : decode b_Tl_workInRound 24 = .ok (.getfield 11, 3) := by decide +kernel
theorem d_Tl_workInRound_27 : decode b_Tl_workInRound 27 = .ok (.iload_n 3, 1) := by decide +kernel
theorem d_Tl_workInRound_28 : decode b_Tl_workInRound 28 = .ok (.aaload, 1) := by decide +kernel
theorem d_Tl_workInRound_29 : decode b_Tl_workInRound 29 = .ok (.getfield 22, 3) := by decide +kernel
theorem d_Tl_workInRound_32 : decode b_Tl_workInRound 32 = .ok (.idiv, 1) := by decide +kernel
theorem d_Tl_workInRound_33 : decode b_Tl_workInRound 33 = .ok (.imul, 1) := by decide +kernel
theorem d_Tl_workInRound_34 : decode b_Tl_workInRound 34 = .ok (.iadd, 1) := by decide +kernel
theorem d_Tl_workInRound_35 : decode b_Tl_workInRound 35 = .ok (.istore_n 2, 1) := by decide +kernel
theorem d_Tl_workInRound_36 : decode b_Tl_workInRound 36 = .ok (.iinc 3 1, 3) := by decide +kernel
theorem d_Tl_workInRound_39 : decode b_Tl_workInRound 39 = .ok (.goto (-35), 3) := by decide +kernel
theorem d_Tl_workInRound_42 : decode b_Tl_workInRound 42 = .ok (.iload_n 2, 1) := by decide +kernel
theorem d_Tl_workInRound_43 : decode b_Tl_workInRound 43 = .ok (.ireturn, 1) := by decide +kernel
theorem d_Tl_greatestOffset_0 : decode b_Tl_greatestOffset 0 = .ok (.iconst 0, 1) := by decide +kernel
theorem d_Tl_greatestOffset_1 : decode b_Tl_greatestOffset 1 = .ok (.istore_n 1, 1) := by decide +kernel
theorem d_Tl_greatestOffset_2 : decode b_Tl_greatestOffset 2 = .ok (.iconst 0, 1) := by decide +kernel
theorem d_Tl_greatestOffset_3 : decode b_Tl_greatestOffset 3 = .ok (.istore_n 2, 1) := by decide +kernel
theorem d_Tl_greatestOffset_4 : decode b_Tl_greatestOffset 4 = .ok (.iload_n 2, 1) := by decide +kernel
theorem d_Tl_greatestOffset_5 : decode b_Tl_greatestOffset 5 = .ok (.aload_n 0, 1) := by decide +kernel
theorem d_Tl_greatestOffset_6 : decode b_Tl_greatestOffset 6 = .ok (.getfield 18, 3) := by decide +kernel
theorem d_Tl_greatestOffset_9 : decode b_Tl_greatestOffset 9 = .ok (.if_icmp .ge 23, 3) := by decide +kernel
theorem d_Tl_greatestOffset_12 : decode b_Tl_greatestOffset 12 = .ok (.iload_n 1, 1) := by decide +kernel
theorem d_Tl_greatestOffset_13 : decode b_Tl_greatestOffset 13 = .ok (.aload_n 0, 1) := by decide +kernel
theorem d_Tl_greatestOffset_14 : decode b_Tl_greatestOffset 14 = .ok (.getfield 11, 3) := by decide +kernel
theorem d_Tl_greatestOffset_17 : decode b_Tl_greatestOffset 17 = .ok (.iload_n 2, 1) := by decide +kernel
theorem d_Tl_greatestOffset_18 : decode b_Tl_greatestOffset 18 = .ok (.aaload, 1) := by decide +kernel
theorem d_Tl_greatestOffset_19 : decode b_Tl_greatestOffset 19 = .ok (.getfield 31, 3) := by decide +kernel
theorem d_Tl_greatestOffset_22 : decode b_Tl_greatestOffset 22 = .ok (.invokestatic 44, 3) := by decide +kernel
theorem d_Tl_greatestOffset_25 : decode b_Tl_greatestOffset 25 = .ok (.istore_n 1, 1) := by decide +kernel
theorem d_Tl_greatestOffset_26 : decode b_Tl_greatestOffset 26 = .ok (.iinc 2 1, 3) := by decide +kernel
theorem d_Tl_greatestOffset_29 : decode b_Tl_greatestOffset 29 = .ok (.goto (-25), 3) := by decide +kernel
theorem d_Tl_greatestOffset_32 : decode b_Tl_greatestOffset 32 = .ok (.iload_n 1, 1) := by decide +kernel
theorem d_Tl_greatestOffset_33 : decode b_Tl_greatestOffset 33 = .ok (.ireturn, 1) := by decide +kernel
theorem d_Ma_max_0 : decode b_Ma_max 0 = .ok (.iload_n 0, 1) := by decide +kernel
theorem d_Ma_max_1 : decode b_Ma_max 1 = .ok (.iload_n 1, 1) := by decide +kernel
theorem d_Ma_max_2 : decode b_Ma_max 2 = .ok (.if_icmp .lt 7, 3) := by decide +kernel
theorem d_Ma_max_5 : decode b_Ma_max 5 = .ok (.iload_n 0, 1) := by decide +kernel
theorem d_Ma_max_6 : decode b_Ma_max 6 = .ok (.goto 4, 3) := by decide +kernel
theorem d_Ma_max_9 : decode b_Ma_max 9 = .ok (.iload_n 1, 1) := by decide +kernel
theorem d_Ma_max_10 : decode b_Ma_max 10 = .ok (.ireturn, 1) := by decide +kernel
theorem d_Pl_release_0 : decode b_Pl_release 0 = .ok (.iconst 0, 1) := by decide +kernel
theorem d_Pl_release_1 : decode b_Pl_release 1 = .ok (.istore_n 3, 1) := by decide +kernel
theorem d_Pl_release_2 : decode b_Pl_release 2 = .ok (.iload_n 3, 1) := by decide +kernel
theorem d_Pl_release_3 : decode b_Pl_release 3 = .ok (.aload_n 1, 1) := by decide +kernel
theorem d_Pl_release_4 : decode b_Pl_release 4 = .ok (.getfield 38, 3) := by decide +kernel
theorem d_Pl_release_7 : decode b_Pl_release 7 = .ok (.if_icmp .ge 50, 3) := by decide +kernel
theorem d_Pl_release_10 : decode b_Pl_release 10 = .ok (.aload_n 1, 1) := by decide +kernel
theorem d_Pl_release_11 : decode b_Pl_release 11 = .ok (.getfield 49, 3) := by decide +kernel
theorem d_Pl_release_14 : decode b_Pl_release 14 = .ok (.iload_n 3, 1) := by decide +kernel
theorem d_Pl_release_15 : decode b_Pl_release 15 = .ok (.aaload, 1) := by decide +kernel
theorem d_Pl_release_16 : decode b_Pl_release 16 = .ok (.astore 4, 2) := by decide +kernel
theorem d_Pl_release_18 : decode b_Pl_release 18 = .ok (.aload 4, 2) := by decide +kernel
theorem d_Pl_release_20 : decode b_Pl_release 20 = .ok (.iload_n 2, 1) := by decide +kernel
theorem d_Pl_release_21 : decode b_Pl_release 21 = .ok (.invokevirtual 53, 3) := by decide +kernel
theorem d_Pl_release_24 : decode b_Pl_release 24 = .ok (.ifCond .eq 27, 3) := by decide +kernel
theorem d_Pl_release_27 : decode b_Pl_release 27 = .ok (.aload_n 0, 1) := by decide +kernel
theorem d_Pl_release_28 : decode b_Pl_release 28 = .ok (.getfield 9, 3) := by decide +kernel
theorem d_Pl_release_31 : decode b_Pl_release 31 = .ok (.iload_n 3, 1) := by decide +kernel
theorem d_Pl_release_32 : decode b_Pl_release 32 = .ok (.aload 4, 2) := by decide +kernel
theorem d_Pl_release_34 : decode b_Pl_release 34 = .ok (.getfield 59, 3) := by decide +kernel
theorem d_Pl_release_37 : decode b_Pl_release 37 = .ok (.iastore, 1) := by decide +kernel
theorem d_Pl_release_38 : decode b_Pl_release 38 = .ok (.aload_n 0, 1) := by decide +kernel
theorem d_Pl_release_39 : decode b_Pl_release 39 = .ok (.getfield 15, 3) := by decide +kernel
theorem d_Pl_release_42 : decode b_Pl_release 42 = .ok (.iload_n 3, 1) := by decide +kernel
theorem d_Pl_release_43 : decode b_Pl_release 43 = .ok (.iload_n 2, 1) := by decide +kernel
theorem d_Pl_release_44 : decode b_Pl_release 44 = .ok (.aload 4, 2) := by decide +kernel
theorem d_Pl_release_46 : decode b_Pl_release 46 = .ok (.getfield 62, 3) := by decide +kernel
theorem d_Pl_release_49 : decode b_Pl_release 49 = .ok (.iadd, 1) := by decide +kernel
theorem d_Pl_release_50 : decode b_Pl_release 50 = .ok (.iastore, 1) := by decide +kernel
theorem d_Pl_release_51 : decode b_Pl_release 51 = .ok (.iinc 3 1, 3) := by decide +kernel
theorem d_Pl_release_54 : decode b_Pl_release 54 = .ok (.goto (-52), 3) := by decide +kernel
theorem d_Pl_release_57 : decode b_Pl_release 57 = .ok (.return_, 1) := by decide +kernel
theorem d_Tk_releasesAt_0 : decode b_Tk_releasesAt 0 = .ok (.iload_n 1, 1) := by decide +kernel
theorem d_Tk_releasesAt_1 : decode b_Tk_releasesAt 1 = .ok (.aload_n 0, 1) := by decide +kernel
theorem d_Tk_releasesAt_2 : decode b_Tk_releasesAt 2 = .ok (.getfield 26, 3) := by decide +kernel
theorem d_Tk_releasesAt_5 : decode b_Tk_releasesAt 5 = .ok (.if_icmp .lt 21, 3) := by decide +kernel
theorem d_Tk_releasesAt_8 : decode b_Tk_releasesAt 8 = .ok (.iload_n 1, 1) := by decide +kernel
theorem d_Tk_releasesAt_9 : decode b_Tk_releasesAt 9 = .ok (.aload_n 0, 1) := by decide +kernel
theorem d_Tk_releasesAt_10 : decode b_Tk_releasesAt 10 = .ok (.getfield 26, 3) := by decide +kernel
theorem d_Tk_releasesAt_13 : decode b_Tk_releasesAt 13 = .ok (.isub, 1) := by decide +kernel
theorem d_Tk_releasesAt_14 : decode b_Tk_releasesAt 14 = .ok (.aload_n 0, 1) := by decide +kernel
theorem d_Tk_releasesAt_15 : decode b_Tk_releasesAt 15 = .ok (.getfield 9, 3) := by decide +kernel
theorem d_Tk_releasesAt_18 : decode b_Tk_releasesAt 18 = .ok (.irem, 1) := by decide +kernel
theorem d_Tk_releasesAt_19 : decode b_Tk_releasesAt 19 = .ok (.ifCond .ne 7, 3) := by decide +kernel
theorem d_Tk_releasesAt_22 : decode b_Tk_releasesAt 22 = .ok (.iconst 1, 1) := by decide +kernel
theorem d_Tk_releasesAt_23 : decode b_Tk_releasesAt 23 = .ok (.goto 4, 3) := by decide +kernel
theorem d_Tk_releasesAt_26 : decode b_Tk_releasesAt 26 = .ok (.iconst 0, 1) := by decide +kernel
theorem d_Tk_releasesAt_27 : decode b_Tk_releasesAt 27 = .ok (.ireturn, 1) := by decide +kernel
theorem d_Pl_mostUrgent_0 : decode b_Pl_mostUrgent 0 = .ok (.iconst (-1), 1) := by decide +kernel
theorem d_Pl_mostUrgent_1 : decode b_Pl_mostUrgent 1 = .ok (.istore_n 2, 1) := by decide +kernel
theorem d_Pl_mostUrgent_2 : decode b_Pl_mostUrgent 2 = .ok (.iconst 0, 1) := by decide +kernel
theorem d_Pl_mostUrgent_3 : decode b_Pl_mostUrgent 3 = .ok (.istore_n 3, 1) := by decide +kernel
theorem d_Pl_mostUrgent_4 : decode b_Pl_mostUrgent 4 = .ok (.iload_n 3, 1) := by decide +kernel
theorem d_Pl_mostUrgent_5 : decode b_Pl_mostUrgent 5 = .ok (.iload_n 1, 1) := by decide +kernel
theorem d_Pl_mostUrgent_6 : decode b_Pl_mostUrgent 6 = .ok (.if_icmp .ge 40, 3) := by decide +kernel
theorem d_Pl_mostUrgent_9 : decode b_Pl_mostUrgent 9 = .ok (.aload_n 0, 1) := by decide +kernel
theorem d_Pl_mostUrgent_10 : decode b_Pl_mostUrgent 10 = .ok (.getfield 9, 3) := by decide +kernel
theorem d_Pl_mostUrgent_13 : decode b_Pl_mostUrgent 13 = .ok (.iload_n 3, 1) := by decide +kernel
theorem d_Pl_mostUrgent_14 : decode b_Pl_mostUrgent 14 = .ok (.iaload, 1) := by decide +kernel
theorem d_Pl_mostUrgent_15 : decode b_Pl_mostUrgent 15 = .ok (.ifCond .le 25, 3) := by decide +kernel
theorem d_Pl_mostUrgent_18 : decode b_Pl_mostUrgent 18 = .ok (.iload_n 2, 1) := by decide +kernel
theorem d_Pl_mostUrgent_19 : decode b_Pl_mostUrgent 19 = .ok (.iconst (-1), 1) := by decide +kernel
theorem d_Pl_mostUrgent_20 : decode b_Pl_mostUrgent 20 = .ok (.if_icmp .eq 18, 3) := by decide +kernel
theorem d_Pl_mostUrgent_23 : decode b_Pl_mostUrgent 23 = .ok (.aload_n 0, 1) := by decide +kernel
theorem d_Pl_mostUrgent_24 : decode b_Pl_mostUrgent 24 = .ok (.getfield 15, 3) := by decide +kernel
theorem d_Pl_mostUrgent_27 : decode b_Pl_mostUrgent 27 = .ok (.iload_n 3, 1) := by decide +kernel
theorem d_Pl_mostUrgent_28 : decode b_Pl_mostUrgent 28 = .ok (.iaload, 1) := by decide +kernel
theorem d_Pl_mostUrgent_29 : decode b_Pl_mostUrgent 29 = .ok (.aload_n 0, 1) := by decide +kernel
theorem d_Pl_mostUrgent_30 : decode b_Pl_mostUrgent 30 = .ok (.getfield 15, 3) := by decide +kernel
theorem d_Pl_mostUrgent_33 : decode b_Pl_mostUrgent 33 = .ok (.iload_n 2, 1) := by decide +kernel
theorem d_Pl_mostUrgent_34 : decode b_Pl_mostUrgent 34 = .ok (.iaload, 1) := by decide +kernel
theorem d_Pl_mostUrgent_35 : decode b_Pl_mostUrgent 35 = .ok (.if_icmp .ge 5, 3) := by decide +kernel
theorem d_Pl_mostUrgent_38 : decode b_Pl_mostUrgent 38 = .ok (.iload_n 3, 1) := by decide +kernel
theorem d_Pl_mostUrgent_39 : decode b_Pl_mostUrgent 39 = .ok (.istore_n 2, 1) := by decide +kernel
theorem d_Pl_mostUrgent_40 : decode b_Pl_mostUrgent 40 = .ok (.iinc 3 1, 3) := by decide +kernel
theorem d_Pl_mostUrgent_43 : decode b_Pl_mostUrgent 43 = .ok (.goto (-39), 3) := by decide +kernel
theorem d_Pl_mostUrgent_46 : decode b_Pl_mostUrgent 46 = .ok (.iload_n 2, 1) := by decide +kernel
theorem d_Pl_mostUrgent_47 : decode b_Pl_mostUrgent 47 = .ok (.ireturn, 1) := by decide +kernel
theorem d_Pl_missesWindow_0 : decode b_Pl_missesWindow 0 = .ok (.iconst 0, 1) := by decide +kernel
theorem d_Pl_missesWindow_1 : decode b_Pl_missesWindow 1 = .ok (.istore_n 3, 1) := by decide +kernel
theorem d_Pl_missesWindow_2 : decode b_Pl_missesWindow 2 = .ok (.iload_n 3, 1) := by decide +kernel
theorem d_Pl_missesWindow_3 : decode b_Pl_missesWindow 3 = .ok (.iload_n 1, 1) := by decide +kernel
theorem d_Pl_missesWindow_4 : decode b_Pl_missesWindow 4 = .ok (.if_icmp .ge 30, 3) := by decide +kernel
theorem d_Pl_missesWindow_7 : decode b_Pl_missesWindow 7 = .ok (.aload_n 0, 1) := by decide +kernel
theorem d_Pl_missesWindow_8 : decode b_Pl_missesWindow 8 = .ok (.getfield 9, 3) := by decide +kernel
theorem d_Pl_missesWindow_11 : decode b_Pl_missesWindow 11 = .ok (.iload_n 3, 1) := by decide +kernel
theorem d_Pl_missesWindow_12 : decode b_Pl_missesWindow 12 = .ok (.iaload, 1) := by decide +kernel
theorem d_Pl_missesWindow_13 : decode b_Pl_missesWindow 13 = .ok (.ifCond .le 15, 3) := by decide +kernel
theorem d_Pl_missesWindow_16 : decode b_Pl_missesWindow 16 = .ok (.aload_n 0, 1) := by decide +kernel
theorem d_Pl_missesWindow_17 : decode b_Pl_missesWindow 17 = .ok (.getfield 15, 3) := by decide +kernel
theorem d_Pl_missesWindow_20 : decode b_Pl_missesWindow 20 = .ok (.iload_n 3, 1) := by decide +kernel
theorem d_Pl_missesWindow_21 : decode b_Pl_missesWindow 21 = .ok (.iaload, 1) := by decide +kernel
theorem d_Pl_missesWindow_22 : decode b_Pl_missesWindow 22 = .ok (.iload_n 2, 1) := by decide +kernel
theorem d_Pl_missesWindow_23 : decode b_Pl_missesWindow 23 = .ok (.if_icmp .gt 5, 3) := by decide +kernel
theorem d_Pl_missesWindow_26 : decode b_Pl_missesWindow 26 = .ok (.iconst 1, 1) := by decide +kernel
theorem d_Pl_missesWindow_27 : decode b_Pl_missesWindow 27 = .ok (.ireturn, 1) := by decide +kernel
theorem d_Pl_missesWindow_28 : decode b_Pl_missesWindow 28 = .ok (.iinc 3 1, 3) := by decide +kernel
theorem d_Pl_missesWindow_31 : decode b_Pl_missesWindow 31 = .ok (.goto (-29), 3) := by decide +kernel
theorem d_Pl_missesWindow_34 : decode b_Pl_missesWindow 34 = .ok (.iconst 0, 1) := by decide +kernel
theorem d_Pl_missesWindow_35 : decode b_Pl_missesWindow 35 = .ok (.ireturn, 1) := by decide +kernel
theorem d_Tb_become_0 : decode b_Tb_become 0 = .ok (.aload_n 0, 1) := by decide +kernel
theorem d_Tb_become_1 : decode b_Tb_become 1 = .ok (.iconst 0, 1) := by decide +kernel
theorem d_Tb_become_2 : decode b_Tb_become 2 = .ok (.putfield 21, 3) := by decide +kernel
theorem d_Tb_become_5 : decode b_Tb_become 5 = .ok (.iconst 0, 1) := by decide +kernel
theorem d_Tb_become_6 : decode b_Tb_become 6 = .ok (.istore_n 3, 1) := by decide +kernel
theorem d_Tb_become_7 : decode b_Tb_become 7 = .ok (.iload_n 3, 1) := by decide +kernel
theorem d_Tb_become_8 : decode b_Tb_become 8 = .ok (.iload_n 2, 1) := by decide +kernel
theorem d_Tb_become_9 : decode b_Tb_become 9 = .ok (.if_icmp .ge 91, 3) := by decide +kernel
theorem d_Tb_become_12 : decode b_Tb_become 12 = .ok (.aload_n 1, 1) := by decide +kernel
theorem d_Tb_become_13 : decode b_Tb_become 13 = .ok (.iload_n 3, 1) := by decide +kernel
theorem d_Tb_become_14 : decode b_Tb_become 14 = .ok (.iaload, 1) := by decide +kernel
theorem d_Tb_become_15 : decode b_Tb_become 15 = .ok (.iconst (-1), 1) := by decide +kernel
theorem d_Tb_become_16 : decode b_Tb_become 16 = .ok (.if_icmp .ne 6, 3) := by decide +kernel
theorem d_Tb_become_19 : decode b_Tb_become 19 = .ok (.goto 75, 3) := by decide +kernel
theorem d_Tb_become_22 : decode b_Tb_become 22 = .ok (.aload_n 0, 1) := by decide +kernel
theorem d_Tb_become_23 : decode b_Tb_become 23 = .ok (.getfield 21, 3) := by decide +kernel
theorem d_Tb_become_26 : decode b_Tb_become 26 = .ok (.ifCond .le 36, 3) := by decide +kernel
theorem d_Tb_become_29 : decode b_Tb_become 29 = .ok (.iload_n 3, 1) := by decide +kernel
theorem d_Tb_become_30 : decode b_Tb_become 30 = .ok (.ifCond .le 32, 3) := by decide +kernel
theorem d_Tb_become_33 : decode b_Tb_become 33 = .ok (.aload_n 1, 1) := by decide +kernel
theorem d_Tb_become_34 : decode b_Tb_become 34 = .ok (.iload_n 3, 1) := by decide +kernel
theorem d_Tb_become_35 : decode b_Tb_become 35 = .ok (.iaload, 1) := by decide +kernel
theorem d_Tb_become_36 : decode b_Tb_become 36 = .ok (.aload_n 1, 1) := by decide +kernel
theorem d_Tb_become_37 : decode b_Tb_become 37 = .ok (.iload_n 3, 1) := by decide +kernel
theorem d_Tb_become_38 : decode b_Tb_become 38 = .ok (.iconst 1, 1) := by decide +kernel
theorem d_Tb_become_39 : decode b_Tb_become 39 = .ok (.isub, 1) := by decide +kernel
theorem d_Tb_become_40 : decode b_Tb_become 40 = .ok (.iaload, 1) := by decide +kernel
theorem d_Tb_become_41 : decode b_Tb_become 41 = .ok (.if_icmp .ne 21, 3) := by decide +kernel
theorem d_Tb_become_44 : decode b_Tb_become 44 = .ok (.aload_n 0, 1) := by decide +kernel
theorem d_Tb_become_45 : decode b_Tb_become 45 = .ok (.getfield 15, 3) := by decide +kernel
theorem d_Tb_become_48 : decode b_Tb_become 48 = .ok (.aload_n 0, 1) := by decide +kernel
theorem d_Tb_become_49 : decode b_Tb_become 49 = .ok (.getfield 21, 3) := by decide +kernel
theorem d_Tb_become_52 : decode b_Tb_become 52 = .ok (.iconst 1, 1) := by decide +kernel
theorem d_Tb_become_53 : decode b_Tb_become 53 = .ok (.isub, 1) := by decide +kernel
theorem d_Tb_become_54 : decode b_Tb_become 54 = .ok (.dup2, 1) := by decide +kernel
theorem d_Tb_become_55 : decode b_Tb_become 55 = .ok (.iaload, 1) := by decide +kernel
theorem d_Tb_become_56 : decode b_Tb_become 56 = .ok (.iconst 1, 1) := by decide +kernel
theorem d_Tb_become_57 : decode b_Tb_become 57 = .ok (.iadd, 1) := by decide +kernel
theorem d_Tb_become_58 : decode b_Tb_become 58 = .ok (.iastore, 1) := by decide +kernel
theorem d_Tb_become_59 : decode b_Tb_become 59 = .ok (.goto 35, 3) := by decide +kernel
theorem d_Tb_become_62 : decode b_Tb_become 62 = .ok (.aload_n 0, 1) := by decide +kernel
theorem d_Tb_become_63 : decode b_Tb_become 63 = .ok (.getfield 21, 3) := by decide +kernel
theorem d_Tb_become_66 : decode b_Tb_become 66 = .ok (.bipush 60, 2) := by decide +kernel
theorem d_Tb_become_68 : decode b_Tb_become 68 = .ok (.if_icmp .ge 19, 3) := by decide +kernel
theorem d_Tb_become_71 : decode b_Tb_become 71 = .ok (.aload_n 0, 1) := by decide +kernel
theorem d_Tb_become_72 : decode b_Tb_become 72 = .ok (.aload_n 0, 1) := by decide +kernel
theorem d_Tb_become_73 : decode b_Tb_become 73 = .ok (.getfield 21, 3) := by decide +kernel
theorem d_Tb_become_76 : decode b_Tb_become 76 = .ok (.iload_n 3, 1) := by decide +kernel
theorem d_Tb_become_77 : decode b_Tb_become 77 = .ok (.iconst 1, 1) := by decide +kernel
theorem d_Tb_become_78 : decode b_Tb_become 78 = .ok (.aload_n 1, 1) := by decide +kernel
theorem d_Tb_become_79 : decode b_Tb_become 79 = .ok (.iload_n 3, 1) := by decide +kernel
theorem d_Tb_become_80 : decode b_Tb_become 80 = .ok (.iaload, 1) := by decide +kernel
theorem d_Tb_become_81 : decode b_Tb_become 81 = .ok (.invokevirtual 25, 3) := by decide +kernel
theorem d_Tb_become_84 : decode b_Tb_become 84 = .ok (.goto 10, 3) := by decide +kernel
theorem d_Tb_become_87 : decode b_Tb_become 87 = .ok (.aload_n 0, 1) := by decide +kernel
theorem d_Tb_become_88 : decode b_Tb_become 88 = .ok (.iconst 0, 1) := by decide +kernel
theorem d_Tb_become_89 : decode b_Tb_become 89 = .ok (.putfield 21, 3) := by decide +kernel
theorem d_Tb_become_92 : decode b_Tb_become 92 = .ok (.iconst 0, 1) := by decide +kernel
theorem d_Tb_become_93 : decode b_Tb_become 93 = .ok (.ireturn, 1) := by decide +kernel
theorem d_Tb_become_94 : decode b_Tb_become 94 = .ok (.iinc 3 1, 3) := by decide +kernel
theorem d_Tb_become_97 : decode b_Tb_become 97 = .ok (.goto (-90), 3) := by decide +kernel
theorem d_Tb_become_100 : decode b_Tb_become 100 = .ok (.iconst 1, 1) := by decide +kernel
theorem d_Tb_become_101 : decode b_Tb_become 101 = .ok (.ireturn, 1) := by decide +kernel
theorem d_Tb_put_0 : decode b_Tb_put 0 = .ok (.aload_n 0, 1) := by decide +kernel
theorem d_Tb_put_1 : decode b_Tb_put 1 = .ok (.getfield 9, 3) := by decide +kernel
theorem d_Tb_put_4 : decode b_Tb_put 4 = .ok (.iload_n 1, 1) := by decide +kernel
theorem d_Tb_put_5 : decode b_Tb_put 5 = .ok (.iload_n 2, 1) := by decide +kernel
theorem d_Tb_put_6 : decode b_Tb_put 6 = .ok (.iastore, 1) := by decide +kernel
theorem d_Tb_put_7 : decode b_Tb_put 7 = .ok (.aload_n 0, 1) := by decide +kernel
theorem d_Tb_put_8 : decode b_Tb_put 8 = .ok (.getfield 15, 3) := by decide +kernel
theorem d_Tb_put_11 : decode b_Tb_put 11 = .ok (.iload_n 1, 1) := by decide +kernel
theorem d_Tb_put_12 : decode b_Tb_put 12 = .ok (.iload_n 3, 1) := by decide +kernel
theorem d_Tb_put_13 : decode b_Tb_put 13 = .ok (.iastore, 1) := by decide +kernel
theorem d_Tb_put_14 : decode b_Tb_put 14 = .ok (.aload_n 0, 1) := by decide +kernel
theorem d_Tb_put_15 : decode b_Tb_put 15 = .ok (.getfield 18, 3) := by decide +kernel
theorem d_Tb_put_18 : decode b_Tb_put 18 = .ok (.iload_n 1, 1) := by decide +kernel
theorem d_Tb_put_19 : decode b_Tb_put 19 = .ok (.iload 4, 2) := by decide +kernel
theorem d_Tb_put_21 : decode b_Tb_put 21 = .ok (.iastore, 1) := by decide +kernel
theorem d_Tb_put_22 : decode b_Tb_put 22 = .ok (.iload_n 1, 1) := by decide +kernel
theorem d_Tb_put_23 : decode b_Tb_put 23 = .ok (.aload_n 0, 1) := by decide +kernel
theorem d_Tb_put_24 : decode b_Tb_put 24 = .ok (.getfield 21, 3) := by decide +kernel
theorem d_Tb_put_27 : decode b_Tb_put 27 = .ok (.if_icmp .ne 13, 3) := by decide +kernel
theorem d_Tb_put_30 : decode b_Tb_put 30 = .ok (.aload_n 0, 1) := by decide +kernel
theorem d_Tb_put_31 : decode b_Tb_put 31 = .ok (.dup, 1) := by decide +kernel
theorem d_Tb_put_32 : decode b_Tb_put 32 = .ok (.getfield 21, 3) := by decide +kernel
theorem d_Tb_put_35 : decode b_Tb_put 35 = .ok (.iconst 1, 1) := by decide +kernel
theorem d_Tb_put_36 : decode b_Tb_put 36 = .ok (.iadd, 1) := by decide +kernel
theorem d_Tb_put_37 : decode b_Tb_put 37 = .ok (.putfield 21, 3) := by decide +kernel
theorem d_Tb_put_40 : decode b_Tb_put 40 = .ok (.return_, 1) := by decide +kernel
theorem d_Ex_slot_0 : decode b_Ex_slot 0 = .ok (.aload_n 0, 1) := by decide +kernel
theorem d_Ex_slot_1 : decode b_Ex_slot 1 = .ok (.invokevirtual 52, 3) := by decide +kernel
theorem d_Ex_slot_4 : decode b_Ex_slot 4 = .ok (.iload_n 1, 1) := by decide +kernel
theorem d_Ex_slot_5 : decode b_Ex_slot 5 = .ok (.aload_n 0, 1) := by decide +kernel
theorem d_Ex_slot_6 : decode b_Ex_slot 6 = .ok (.getfield 19, 3) := by decide +kernel
theorem d_Ex_slot_9 : decode b_Ex_slot 9 = .ok (.getfield 94, 3) := by decide +kernel
theorem d_Ex_slot_12 : decode b_Ex_slot 12 = .ok (.iconst 1, 1) := by decide +kernel
theorem d_Ex_slot_13 : decode b_Ex_slot 13 = .ok (.iadd, 1) := by decide +kernel
theorem d_Ex_slot_14 : decode b_Ex_slot 14 = .ok (.bipush 60, 2) := by decide +kernel
theorem d_Ex_slot_16 : decode b_Ex_slot 16 = .ok (.invokestatic 107, 3) := by decide +kernel
theorem d_Ex_slot_19 : decode b_Ex_slot 19 = .ok (.invokestatic 55, 3) := by decide +kernel
theorem d_Ex_slot_22 : decode b_Ex_slot 22 = .ok (.iload 4, 2) := by decide +kernel
theorem d_Ex_slot_24 : decode b_Ex_slot 24 = .ok (.aload_n 0, 1) := by decide +kernel
theorem d_Ex_slot_25 : decode b_Ex_slot 25 = .ok (.getfield 10, 3) := by decide +kernel
theorem d_Ex_slot_28 : decode b_Ex_slot 28 = .ok (.getfield 62, 3) := by decide +kernel
theorem d_Ex_slot_31 : decode b_Ex_slot 31 = .ok (.invokestatic 55, 3) := by decide +kernel
theorem d_Ex_slot_34 : decode b_Ex_slot 34 = .ok (.iload_n 2, 1) := by decide +kernel
theorem d_Ex_slot_35 : decode b_Ex_slot 35 = .ok (.ifCond .lt 22, 3) := by decide +kernel
theorem d_Ex_slot_38 : decode b_Ex_slot 38 = .ok (.iload_n 2, 1) := by decide +kernel
theorem d_Ex_slot_39 : decode b_Ex_slot 39 = .ok (.sipush 240, 3) := by decide +kernel
theorem d_Ex_slot_42 : decode b_Ex_slot 42 = .ok (.if_icmp .ge 15, 3) := by decide +kernel
theorem d_Ex_slot_45 : decode b_Ex_slot 45 = .ok (.iload_n 3, 1) := by decide +kernel
theorem d_Ex_slot_46 : decode b_Ex_slot 46 = .ok (.iconst 1, 1) := by decide +kernel
theorem d_Ex_slot_47 : decode b_Ex_slot 47 = .ok (.if_icmp .lt 10, 3) := by decide +kernel
theorem d_Ex_slot_50 : decode b_Ex_slot 50 = .ok (.iload_n 3, 1) := by decide +kernel
theorem d_Ex_slot_51 : decode b_Ex_slot 51 = .ok (.sipush 240, 3) := by decide +kernel
theorem d_Ex_slot_54 : decode b_Ex_slot 54 = .ok (.if_icmp .le 13, 3) := by decide +kernel
theorem d_Ex_slot_57 : decode b_Ex_slot 57 = .ok (.new 76, 3) := by decide +kernel
theorem d_Ex_slot_60 : decode b_Ex_slot 60 = .ok (.dup, 1) := by decide +kernel
theorem d_Ex_slot_61 : decode b_Ex_slot 61 = .ok (.ldc 113, 2) := by decide +kernel
theorem d_Ex_slot_63 : decode b_Ex_slot 63 = .ok (.invokespecial 80, 3) := by decide +kernel
theorem d_Ex_slot_66 : decode b_Ex_slot 66 = .ok (.athrow, 1) := by decide +kernel
theorem d_Ex_slot_67 : decode b_Ex_slot 67 = .ok (.aload_n 0, 1) := by decide +kernel
theorem d_Ex_slot_68 : decode b_Ex_slot 68 = .ok (.getfield 19, 3) := by decide +kernel
theorem d_Ex_slot_71 : decode b_Ex_slot 71 = .ok (.iload_n 1, 1) := by decide +kernel
theorem d_Ex_slot_72 : decode b_Ex_slot 72 = .ok (.iload_n 2, 1) := by decide +kernel
theorem d_Ex_slot_73 : decode b_Ex_slot 73 = .ok (.iload_n 3, 1) := by decide +kernel
theorem d_Ex_slot_74 : decode b_Ex_slot 74 = .ok (.iload 4, 2) := by decide +kernel
theorem d_Ex_slot_76 : decode b_Ex_slot 76 = .ok (.invokevirtual 115, 3) := by decide +kernel
theorem d_Ex_slot_79 : decode b_Ex_slot 79 = .ok (.return_, 1) := by decide +kernel
theorem d_Ma_min_0 : decode b_Ma_min 0 = .ok (.iload_n 0, 1) := by decide +kernel
theorem d_Ma_min_1 : decode b_Ma_min 1 = .ok (.iload_n 1, 1) := by decide +kernel
theorem d_Ma_min_2 : decode b_Ma_min 2 = .ok (.if_icmp .gt 7, 3) := by decide +kernel
theorem d_Ma_min_5 : decode b_Ma_min 5 = .ok (.iload_n 0, 1) := by decide +kernel
theorem d_Ma_min_6 : decode b_Ma_min 6 = .ok (.goto 4, 3) := by decide +kernel
theorem d_Ma_min_9 : decode b_Ma_min 9 = .ok (.iload_n 1, 1) := by decide +kernel
theorem d_Ma_min_10 : decode b_Ma_min 10 = .ok (.ireturn, 1) := by decide +kernel
theorem d_Ex_drop_0 : decode b_Ex_drop 0 = .ok (.aload_n 0, 1) := by decide +kernel
theorem d_Ex_drop_1 : decode b_Ex_drop 1 = .ok (.invokevirtual 52, 3) := by decide +kernel
theorem d_Ex_drop_4 : decode b_Ex_drop 4 = .ok (.aload_n 0, 1) := by decide +kernel
theorem d_Ex_drop_5 : decode b_Ex_drop 5 = .ok (.getfield 19, 3) := by decide +kernel
theorem d_Ex_drop_8 : decode b_Ex_drop 8 = .ok (.getfield 94, 3) := by decide +kernel
theorem d_Ex_drop_11 : decode b_Ex_drop 11 = .ok (.ifCond .ne 13, 3) := by decide +kernel
theorem d_Ex_drop_14 : decode b_Ex_drop 14 = .ok (.new 65, 3) := by decide +kernel
theorem d_Ex_drop_17 : decode b_Ex_drop 17 = .ok (.dup, 1) := by decide +kernel
theorem d_Ex_drop_18 : decode b_Ex_drop 18 = .ok (.ldc 119, 2) := by decide +kernel
theorem d_Ex_drop_20 : decode b_Ex_drop 20 = .ok (.invokespecial 69, 3) := by decide +kernel
theorem d_Ex_drop_23 : decode b_Ex_drop 23 = .ok (.athrow, 1) := by decide +kernel
theorem d_Ex_drop_24 : decode b_Ex_drop 24 = .ok (.aload_n 0, 1) := by decide +kernel
theorem d_Ex_drop_25 : decode b_Ex_drop 25 = .ok (.getfield 19, 3) := by decide +kernel
theorem d_Ex_drop_28 : decode b_Ex_drop 28 = .ok (.dup, 1) := by decide +kernel
theorem d_Ex_drop_29 : decode b_Ex_drop 29 = .ok (.getfield 94, 3) := by decide +kernel
theorem d_Ex_drop_32 : decode b_Ex_drop 32 = .ok (.iconst 1, 1) := by decide +kernel
theorem d_Ex_drop_33 : decode b_Ex_drop 33 = .ok (.isub, 1) := by decide +kernel
theorem d_Ex_drop_34 : decode b_Ex_drop 34 = .ok (.putfield 94, 3) := by decide +kernel
theorem d_Ex_drop_37 : decode b_Ex_drop 37 = .ok (.return_, 1) := by decide +kernel
theorem d_Ex_slotOf_0 : decode b_Ex_slotOf 0 = .ok (.iload_n 1, 1) := by decide +kernel
theorem d_Ex_slotOf_1 : decode b_Ex_slotOf 1 = .ok (.aload_n 0, 1) := by decide +kernel
theorem d_Ex_slotOf_2 : decode b_Ex_slotOf 2 = .ok (.getfield 19, 3) := by decide +kernel
theorem d_Ex_slotOf_5 : decode b_Ex_slotOf 5 = .ok (.getfield 94, 3) := by decide +kernel
theorem d_Ex_slotOf_8 : decode b_Ex_slotOf 8 = .ok (.invokestatic 55, 3) := by decide +kernel
theorem d_Ex_slotOf_11 : decode b_Ex_slotOf 11 = .ok (.iload_n 2, 1) := by decide +kernel
theorem d_Ex_slotOf_12 : decode b_Ex_slotOf 12 = .ok (.iconst 3, 1) := by decide +kernel
theorem d_Ex_slotOf_13 : decode b_Ex_slotOf 13 = .ok (.invokestatic 55, 3) := by decide +kernel
theorem d_Ex_slotOf_16 : decode b_Ex_slotOf 16 = .ok (.aload_n 0, 1) := by decide +kernel
theorem d_Ex_slotOf_17 : decode b_Ex_slotOf 17 = .ok (.getfield 19, 3) := by decide +kernel
theorem d_Ex_slotOf_20 : decode b_Ex_slotOf 20 = .ok (.iload_n 1, 1) := by decide +kernel
theorem d_Ex_slotOf_21 : decode b_Ex_slotOf 21 = .ok (.iload_n 2, 1) := by decide +kernel
theorem d_Ex_slotOf_22 : decode b_Ex_slotOf 22 = .ok (.invokevirtual 121, 3) := by decide +kernel
theorem d_Ex_slotOf_25 : decode b_Ex_slotOf 25 = .ok (.ireturn, 1) := by decide +kernel
theorem d_Tb_part_0 : decode b_Tb_part 0 = .ok (.iload_n 2, 1) := by decide +kernel
theorem d_Tb_part_1 : decode b_Tb_part 1 = .ok (.lookupswitch 41 #[(0, 27), (1, 34)], 27) := by decide +kernel
theorem d_Tb_part_28 : decode b_Tb_part 28 = .ok (.aload_n 0, 1) := by decide +kernel
theorem d_Tb_part_29 : decode b_Tb_part 29 = .ok (.getfield 9, 3) := by decide +kernel
theorem d_Tb_part_32 : decode b_Tb_part 32 = .ok (.iload_n 1, 1) := by decide +kernel
theorem d_Tb_part_33 : decode b_Tb_part 33 = .ok (.iaload, 1) := by decide +kernel
theorem d_Tb_part_34 : decode b_Tb_part 34 = .ok (.ireturn, 1) := by decide +kernel
theorem d_Tb_part_35 : decode b_Tb_part 35 = .ok (.aload_n 0, 1) := by decide +kernel
theorem d_Tb_part_36 : decode b_Tb_part 36 = .ok (.getfield 15, 3) := by decide +kernel
theorem d_Tb_part_39 : decode b_Tb_part 39 = .ok (.iload_n 1, 1) := by decide +kernel
theorem d_Tb_part_40 : decode b_Tb_part 40 = .ok (.iaload, 1) := by decide +kernel
theorem d_Tb_part_41 : decode b_Tb_part 41 = .ok (.ireturn, 1) := by decide +kernel
theorem d_Tb_part_42 : decode b_Tb_part 42 = .ok (.aload_n 0, 1) := by decide +kernel
theorem d_Tb_part_43 : decode b_Tb_part 43 = .ok (.getfield 18, 3) := by decide +kernel
theorem d_Tb_part_46 : decode b_Tb_part 46 = .ok (.iload_n 1, 1) := by decide +kernel
theorem d_Tb_part_47 : decode b_Tb_part 47 = .ok (.iaload, 1) := by decide +kernel
theorem d_Tb_part_48 : decode b_Tb_part 48 = .ok (.ireturn, 1) := by decide +kernel
theorem d_Ex_check_0 : decode b_Ex_check 0 = .ok (.aload_n 0, 1) := by decide +kernel
theorem d_Ex_check_1 : decode b_Ex_check 1 = .ok (.invokevirtual 52, 3) := by decide +kernel
theorem d_Ex_check_4 : decode b_Ex_check 4 = .ok (.aload_n 0, 1) := by decide +kernel
theorem d_Ex_check_5 : decode b_Ex_check 5 = .ok (.getfield 10, 3) := by decide +kernel
theorem d_Ex_check_8 : decode b_Ex_check 8 = .ok (.invokevirtual 95, 3) := by decide +kernel
theorem d_Ex_check_11 : decode b_Ex_check 11 = .ok (.istore_n 1, 1) := by decide +kernel
theorem d_Ex_check_12 : decode b_Ex_check 12 = .ok (.iload_n 1, 1) := by decide +kernel
theorem d_Ex_check_13 : decode b_Ex_check 13 = .ok (.bipush (-3), 2) := by decide +kernel
theorem d_Ex_check_15 : decode b_Ex_check 15 = .ok (.if_icmp .eq 33, 3) := by decide +kernel
theorem d_Ex_check_18 : decode b_Ex_check 18 = .ok (.aload_n 0, 1) := by decide +kernel
theorem d_Ex_check_19 : decode b_Ex_check 19 = .ok (.getfield 19, 3) := by decide +kernel
theorem d_Ex_check_22 : decode b_Ex_check 22 = .ok (.aload_n 0, 1) := by decide +kernel
theorem d_Ex_check_23 : decode b_Ex_check 23 = .ok (.getfield 37, 3) := by decide +kernel
theorem d_Ex_check_26 : decode b_Ex_check 26 = .ok (.iload_n 1, 1) := by decide +kernel
theorem d_Ex_check_27 : decode b_Ex_check 27 = .ok (.invokevirtual 124, 3) := by decide +kernel
theorem d_Ex_check_30 : decode b_Ex_check 30 = .ok (.ifCond .eq 18, 3) := by decide +kernel
theorem d_Ex_check_33 : decode b_Ex_check 33 = .ok (.aload_n 0, 1) := by decide +kernel
theorem d_Ex_check_34 : decode b_Ex_check 34 = .ok (.getfield 10, 3) := by decide +kernel
theorem d_Ex_check_37 : decode b_Ex_check 37 = .ok (.aload_n 0, 1) := by decide +kernel
theorem d_Ex_check_38 : decode b_Ex_check 38 = .ok (.getfield 37, 3) := by decide +kernel
theorem d_Ex_check_41 : decode b_Ex_check 41 = .ok (.iload_n 1, 1) := by decide +kernel
theorem d_Ex_check_42 : decode b_Ex_check 42 = .ok (.invokevirtual 127, 3) := by decide +kernel
theorem d_Ex_check_45 : decode b_Ex_check 45 = .ok (.ifCond .ne 5, 3) := by decide +kernel
theorem d_Ex_check_48 : decode b_Ex_check 48 = .ok (.iconst 0, 1) := by decide +kernel
theorem d_Ex_check_49 : decode b_Ex_check 49 = .ok (.ireturn, 1) := by decide +kernel
theorem d_Ex_check_50 : decode b_Ex_check 50 = .ok (.aload_n 0, 1) := by decide +kernel
theorem d_Ex_check_51 : decode b_Ex_check 51 = .ok (.iload_n 1, 1) := by decide +kernel
theorem d_Ex_check_52 : decode b_Ex_check 52 = .ok (.invokevirtual 130, 3) := by decide +kernel
theorem d_Ex_check_55 : decode b_Ex_check 55 = .ok (.iconst 1, 1) := by decide +kernel
theorem d_Ex_check_56 : decode b_Ex_check 56 = .ok (.ireturn, 1) := by decide +kernel
theorem d_Tb_spread_0 : decode b_Tb_spread 0 = .ok (.aload_n 1, 1) := by decide +kernel
theorem d_Tb_spread_1 : decode b_Tb_spread 1 = .ok (.iconst (-1), 1) := by decide +kernel
theorem d_Tb_spread_2 : decode b_Tb_spread 2 = .ok (.invokestatic 29, 3) := by decide +kernel
theorem d_Tb_spread_5 : decode b_Tb_spread 5 = .ok (.iconst 0, 1) := by decide +kernel
theorem d_Tb_spread_6 : decode b_Tb_spread 6 = .ok (.istore_n 3, 1) := by decide +kernel
theorem d_Tb_spread_7 : decode b_Tb_spread 7 = .ok (.iload_n 3, 1) := by decide +kernel
theorem d_Tb_spread_8 : decode b_Tb_spread 8 = .ok (.aload_n 0, 1) := by decide +kernel
theorem d_Tb_spread_9 : decode b_Tb_spread 9 = .ok (.getfield 21, 3) := by decide +kernel
theorem d_Tb_spread_12 : decode b_Tb_spread 12 = .ok (.if_icmp .ge 80, 3) := by decide +kernel
theorem d_Tb_spread_15 : decode b_Tb_spread 15 = .ok (.aload_n 0, 1) := by decide +kernel
theorem d_Tb_spread_16 : decode b_Tb_spread 16 = .ok (.getfield 9, 3) := by decide +kernel
theorem d_Tb_spread_19 : decode b_Tb_spread 19 = .ok (.iload_n 3, 1) := by decide +kernel
theorem d_Tb_spread_20 : decode b_Tb_spread 20 = .ok (.iaload, 1) := by decide +kernel
theorem d_Tb_spread_21 : decode b_Tb_spread 21 = .ok (.aload_n 0, 1) := by decide +kernel
theorem d_Tb_spread_22 : decode b_Tb_spread 22 = .ok (.getfield 15, 3) := by decide +kernel
theorem d_Tb_spread_25 : decode b_Tb_spread 25 = .ok (.iload_n 3, 1) := by decide +kernel
theorem d_Tb_spread_26 : decode b_Tb_spread 26 = .ok (.iaload, 1) := by decide +kernel
theorem d_Tb_spread_27 : decode b_Tb_spread 27 = .ok (.iadd, 1) := by decide +kernel
theorem d_Tb_spread_28 : decode b_Tb_spread 28 = .ok (.iload_n 2, 1) := by decide +kernel
theorem d_Tb_spread_29 : decode b_Tb_spread 29 = .ok (.if_icmp .le 5, 3) := by decide +kernel
theorem d_Tb_spread_32 : decode b_Tb_spread 32 = .ok (.iconst 0, 1) := by decide +kernel
theorem d_Tb_spread_33 : decode b_Tb_spread 33 = .ok (.ireturn, 1) := by decide +kernel
theorem d_Tb_spread_34 : decode b_Tb_spread 34 = .ok (.aload_n 0, 1) := by decide +kernel
theorem d_Tb_spread_35 : decode b_Tb_spread 35 = .ok (.getfield 9, 3) := by decide +kernel
theorem d_Tb_spread_38 : decode b_Tb_spread 38 = .ok (.iload_n 3, 1) := by decide +kernel
theorem d_Tb_spread_39 : decode b_Tb_spread 39 = .ok (.iaload, 1) := by decide +kernel
theorem d_Tb_spread_40 : decode b_Tb_spread 40 = .ok (.istore 4, 2) := by decide +kernel
theorem d_Tb_spread_42 : decode b_Tb_spread 42 = .ok (.iload 4, 2) := by decide +kernel
theorem d_Tb_spread_44 : decode b_Tb_spread 44 = .ok (.aload_n 0, 1) := by decide +kernel
theorem d_Tb_spread_45 : decode b_Tb_spread 45 = .ok (.getfield 9, 3) := by decide +kernel
theorem d_Tb_spread_48 : decode b_Tb_spread 48 = .ok (.iload_n 3, 1) := by decide +kernel
theorem d_Tb_spread_49 : decode b_Tb_spread 49 = .ok (.iaload, 1) := by decide +kernel
theorem d_Tb_spread_50 : decode b_Tb_spread 50 = .ok (.aload_n 0, 1) := by decide +kernel
theorem d_Tb_spread_51 : decode b_Tb_spread 51 = .ok (.getfield 15, 3) := by decide +kernel
theorem d_Tb_spread_54 : decode b_Tb_spread 54 = .ok (.iload_n 3, 1) := by decide +kernel
theorem d_Tb_spread_55 : decode b_Tb_spread 55 = .ok (.iaload, 1) := by decide +kernel
theorem d_Tb_spread_56 : decode b_Tb_spread 56 = .ok (.iadd, 1) := by decide +kernel
theorem d_Tb_spread_57 : decode b_Tb_spread 57 = .ok (.if_icmp .ge 29, 3) := by decide +kernel
theorem d_Tb_spread_60 : decode b_Tb_spread 60 = .ok (.aload_n 1, 1) := by decide +kernel
theorem d_Tb_spread_61 : decode b_Tb_spread 61 = .ok (.iload 4, 2) := by decide +kernel
theorem d_Tb_spread_63 : decode b_Tb_spread 63 = .ok (.iaload, 1) := by decide +kernel
theorem d_Tb_spread_64 : decode b_Tb_spread 64 = .ok (.iconst (-1), 1) := by decide +kernel
theorem d_Tb_spread_65 : decode b_Tb_spread 65 = .ok (.if_icmp .eq 5, 3) := by decide +kernel
theorem d_Tb_spread_68 : decode b_Tb_spread 68 = .ok (.iconst 0, 1) := by decide +kernel
theorem d_Tb_spread_69 : decode b_Tb_spread 69 = .ok (.ireturn, 1) := by decide +kernel
theorem d_Tb_spread_70 : decode b_Tb_spread 70 = .ok (.aload_n 1, 1) := by decide +kernel
theorem d_Tb_spread_71 : decode b_Tb_spread 71 = .ok (.iload 4, 2) := by decide +kernel
theorem d_Tb_spread_73 : decode b_Tb_spread 73 = .ok (.aload_n 0, 1) := by decide +kernel
theorem d_Tb_spread_74 : decode b_Tb_spread 74 = .ok (.getfield 18, 3) := by decide +kernel
theorem d_Tb_spread_77 : decode b_Tb_spread 77 = .ok (.iload_n 3, 1) := by decide +kernel
theorem d_Tb_spread_78 : decode b_Tb_spread 78 = .ok (.iaload, 1) := by decide +kernel
theorem d_Tb_spread_79 : decode b_Tb_spread 79 = .ok (.iastore, 1) := by decide +kernel
theorem d_Tb_spread_80 : decode b_Tb_spread 80 = .ok (.iinc 4 1, 3) := by decide +kernel
theorem d_Tb_spread_83 : decode b_Tb_spread 83 = .ok (.goto (-41), 3) := by decide +kernel
theorem d_Tb_spread_86 : decode b_Tb_spread 86 = .ok (.iinc 3 1, 3) := by decide +kernel
theorem d_Tb_spread_89 : decode b_Tb_spread 89 = .ok (.goto (-82), 3) := by decide +kernel
theorem d_Tb_spread_92 : decode b_Tb_spread 92 = .ok (.iconst 1, 1) := by decide +kernel
theorem d_Tb_spread_93 : decode b_Tb_spread 93 = .ok (.ireturn, 1) := by decide +kernel
theorem d_Tl_areServed_0 : decode b_Tl_areServed 0 = .ok (.iconst 0, 1) := by decide +kernel
theorem d_Tl_areServed_1 : decode b_Tl_areServed 1 = .ok (.istore_n 3, 1) := by decide +kernel
theorem d_Tl_areServed_2 : decode b_Tl_areServed 2 = .ok (.iload_n 3, 1) := by decide +kernel
theorem d_Tl_areServed_3 : decode b_Tl_areServed 3 = .ok (.aload_n 0, 1) := by decide +kernel
theorem d_Tl_areServed_4 : decode b_Tl_areServed 4 = .ok (.getfield 18, 3) := by decide +kernel
theorem d_Tl_areServed_7 : decode b_Tl_areServed 7 = .ok (.if_icmp .ge 26, 3) := by decide +kernel
theorem d_Tl_areServed_10 : decode b_Tl_areServed 10 = .ok (.aload_n 0, 1) := by decide +kernel
theorem d_Tl_areServed_11 : decode b_Tl_areServed 11 = .ok (.getfield 11, 3) := by decide +kernel
theorem d_Tl_areServed_14 : decode b_Tl_areServed 14 = .ok (.iload_n 3, 1) := by decide +kernel
theorem d_Tl_areServed_15 : decode b_Tl_areServed 15 = .ok (.aaload, 1) := by decide +kernel
theorem d_Tl_areServed_16 : decode b_Tl_areServed 16 = .ok (.iload_n 3, 1) := by decide +kernel
theorem d_Tl_areServed_17 : decode b_Tl_areServed 17 = .ok (.aload_n 1, 1) := by decide +kernel
theorem d_Tl_areServed_18 : decode b_Tl_areServed 18 = .ok (.iload_n 2, 1) := by decide +kernel
theorem d_Tl_areServed_19 : decode b_Tl_areServed 19 = .ok (.invokevirtual 50, 3) := by decide +kernel
theorem d_Tl_areServed_22 : decode b_Tl_areServed 22 = .ok (.ifCond .ne 5, 3) := by decide +kernel
theorem d_Tl_areServed_25 : decode b_Tl_areServed 25 = .ok (.iconst 0, 1) := by decide +kernel
theorem d_Tl_areServed_26 : decode b_Tl_areServed 26 = .ok (.ireturn, 1) := by decide +kernel
theorem d_Tl_areServed_27 : decode b_Tl_areServed 27 = .ok (.iinc 3 1, 3) := by decide +kernel
theorem d_Tl_areServed_30 : decode b_Tl_areServed 30 = .ok (.goto (-28), 3) := by decide +kernel
theorem d_Tl_areServed_33 : decode b_Tl_areServed 33 = .ok (.iconst 1, 1) := by decide +kernel
theorem d_Tl_areServed_34 : decode b_Tl_areServed 34 = .ok (.ireturn, 1) := by decide +kernel
theorem d_Tk_isServed_0 : decode b_Tk_isServed 0 = .ok (.iconst 0, 1) := by decide +kernel
theorem d_Tk_isServed_1 : decode b_Tk_isServed 1 = .ok (.istore 4, 2) := by decide +kernel
theorem d_Tk_isServed_3 : decode b_Tk_isServed 3 = .ok (.iload 4, 2) := by decide +kernel
theorem d_Tk_isServed_5 : decode b_Tk_isServed 5 = .ok (.iload_n 3, 1) := by decide +kernel
theorem d_Tk_isServed_6 : decode b_Tk_isServed 6 = .ok (.aload_n 0, 1) := by decide +kernel
theorem d_Tk_isServed_7 : decode b_Tk_isServed 7 = .ok (.getfield 9, 3) := by decide +kernel
theorem d_Tk_isServed_10 : decode b_Tk_isServed 10 = .ok (.idiv, 1) := by decide +kernel
theorem d_Tk_isServed_11 : decode b_Tk_isServed 11 = .ok (.if_icmp .ge 69, 3) := by decide +kernel
theorem d_Tk_isServed_14 : decode b_Tk_isServed 14 = .ok (.aload_n 0, 1) := by decide +kernel
theorem d_Tk_isServed_15 : decode b_Tk_isServed 15 = .ok (.getfield 26, 3) := by decide +kernel
theorem d_Tk_isServed_18 : decode b_Tk_isServed 18 = .ok (.iload 4, 2) := by decide +kernel
theorem d_Tk_isServed_20 : decode b_Tk_isServed 20 = .ok (.aload_n 0, 1) := by decide +kernel
theorem d_Tk_isServed_21 : decode b_Tk_isServed 21 = .ok (.getfield 9, 3) := by decide +kernel
theorem d_Tk_isServed_24 : decode b_Tk_isServed 24 = .ok (.imul, 1) := by decide +kernel
theorem d_Tk_isServed_25 : decode b_Tk_isServed 25 = .ok (.iadd, 1) := by decide +kernel
theorem d_Tk_isServed_26 : decode b_Tk_isServed 26 = .ok (.istore 5, 2) := by decide +kernel
theorem d_Tk_isServed_28 : decode b_Tk_isServed 28 = .ok (.iload_n 1, 1) := by decide +kernel
theorem d_Tk_isServed_29 : decode b_Tk_isServed 29 = .ok (.iload 5, 2) := by decide +kernel
theorem d_Tk_isServed_31 : decode b_Tk_isServed 31 = .ok (.aload_n 0, 1) := by decide +kernel
theorem d_Tk_isServed_32 : decode b_Tk_isServed 32 = .ok (.getfield 48, 3) := by decide +kernel
theorem d_Tk_isServed_35 : decode b_Tk_isServed 35 = .ok (.aload_n 2, 1) := by decide +kernel
theorem d_Tk_isServed_36 : decode b_Tk_isServed 36 = .ok (.iload_n 3, 1) := by decide +kernel
theorem d_Tk_isServed_37 : decode b_Tk_isServed 37 = .ok (.invokestatic 51, 3) := by decide +kernel
theorem d_Tk_isServed_40 : decode b_Tk_isServed 40 = .ok (.aload_n 0, 1) := by decide +kernel
theorem d_Tk_isServed_41 : decode b_Tk_isServed 41 = .ok (.getfield 55, 3) := by decide +kernel
theorem d_Tk_isServed_44 : decode b_Tk_isServed 44 = .ok (.if_icmp .ne 28, 3) := by decide +kernel
theorem d_Tk_isServed_47 : decode b_Tk_isServed 47 = .ok (.iload_n 1, 1) := by decide +kernel
theorem d_Tk_isServed_48 : decode b_Tk_isServed 48 = .ok (.iload 5, 2) := by decide +kernel
theorem d_Tk_isServed_50 : decode b_Tk_isServed 50 = .ok (.aload_n 0, 1) := by decide +kernel
theorem d_Tk_isServed_51 : decode b_Tk_isServed 51 = .ok (.getfield 48, 3) := by decide +kernel
theorem d_Tk_isServed_54 : decode b_Tk_isServed 54 = .ok (.iadd, 1) := by decide +kernel
theorem d_Tk_isServed_55 : decode b_Tk_isServed 55 = .ok (.aload_n 0, 1) := by decide +kernel
theorem d_Tk_isServed_56 : decode b_Tk_isServed 56 = .ok (.getfield 9, 3) := by decide +kernel
theorem d_Tk_isServed_59 : decode b_Tk_isServed 59 = .ok (.aload_n 0, 1) := by decide +kernel
theorem d_Tk_isServed_60 : decode b_Tk_isServed 60 = .ok (.getfield 48, 3) := by decide +kernel
theorem d_Tk_isServed_63 : decode b_Tk_isServed 63 = .ok (.isub, 1) := by decide +kernel
theorem d_Tk_isServed_64 : decode b_Tk_isServed 64 = .ok (.aload_n 2, 1) := by decide +kernel
theorem d_Tk_isServed_65 : decode b_Tk_isServed 65 = .ok (.iload_n 3, 1) := by decide +kernel
theorem d_Tk_isServed_66 : decode b_Tk_isServed 66 = .ok (.invokestatic 51, 3) := by decide +kernel
theorem d_Tk_isServed_69 : decode b_Tk_isServed 69 = .ok (.ifCond .eq 5, 3) := by decide +kernel
theorem d_Tk_isServed_72 : decode b_Tk_isServed 72 = .ok (.iconst 0, 1) := by decide +kernel
theorem d_Tk_isServed_73 : decode b_Tk_isServed 73 = .ok (.ireturn, 1) := by decide +kernel
theorem d_Tk_isServed_74 : decode b_Tk_isServed 74 = .ok (.iinc 4 1, 3) := by decide +kernel
theorem d_Tk_isServed_77 : decode b_Tk_isServed 77 = .ok (.goto (-74), 3) := by decide +kernel
theorem d_Tk_isServed_80 : decode b_Tk_isServed 80 = .ok (.iconst 1, 1) := by decide +kernel
theorem d_Tk_isServed_81 : decode b_Tk_isServed 81 = .ok (.ireturn, 1) := by decide +kernel
theorem d_Tk_ticksOf_0 : decode b_Tk_ticksOf 0 = .ok (.iconst 0, 1) := by decide +kernel
theorem d_Tk_ticksOf_1 : decode b_Tk_ticksOf 1 = .ok (.istore 5, 2) := by decide +kernel
theorem d_Tk_ticksOf_3 : decode b_Tk_ticksOf 3 = .ok (.iload_n 1, 1) := by decide +kernel
theorem d_Tk_ticksOf_4 : decode b_Tk_ticksOf 4 = .ok (.istore 6, 2) := by decide +kernel
theorem d_Tk_ticksOf_6 : decode b_Tk_ticksOf 6 = .ok (.iload 6, 2) := by decide +kernel
theorem d_Tk_ticksOf_8 : decode b_Tk_ticksOf 8 = .ok (.iload_n 1, 1) := by decide +kernel
theorem d_Tk_ticksOf_9 : decode b_Tk_ticksOf 9 = .ok (.iload_n 2, 1) := by decide +kernel
theorem d_Tk_ticksOf_10 : decode b_Tk_ticksOf 10 = .ok (.iadd, 1) := by decide +kernel
theorem d_Tk_ticksOf_11 : decode b_Tk_ticksOf 11 = .ok (.if_icmp .ge 23, 3) := by decide +kernel
theorem d_Tk_ticksOf_14 : decode b_Tk_ticksOf 14 = .ok (.aload_n 3, 1) := by decide +kernel
theorem d_Tk_ticksOf_15 : decode b_Tk_ticksOf 15 = .ok (.iload 6, 2) := by decide +kernel
theorem d_Tk_ticksOf_17 : decode b_Tk_ticksOf 17 = .ok (.iload 4, 2) := by decide +kernel
theorem d_Tk_ticksOf_19 : decode b_Tk_ticksOf 19 = .ok (.irem, 1) := by decide +kernel
theorem d_Tk_ticksOf_20 : decode b_Tk_ticksOf 20 = .ok (.iaload, 1) := by decide +kernel
theorem d_Tk_ticksOf_21 : decode b_Tk_ticksOf 21 = .ok (.iload_n 0, 1) := by decide +kernel
theorem d_Tk_ticksOf_22 : decode b_Tk_ticksOf 22 = .ok (.if_icmp .ne 6, 3) := by decide +kernel
theorem d_Tk_ticksOf_25 : decode b_Tk_ticksOf 25 = .ok (.iinc 5 1, 3) := by decide +kernel
theorem d_Tk_ticksOf_28 : decode b_Tk_ticksOf 28 = .ok (.iinc 6 1, 3) := by decide +kernel
theorem d_Tk_ticksOf_31 : decode b_Tk_ticksOf 31 = .ok (.goto (-25), 3) := by decide +kernel
theorem d_Tk_ticksOf_34 : decode b_Tk_ticksOf 34 = .ok (.iload 5, 2) := by decide +kernel
theorem d_Tk_ticksOf_36 : decode b_Tk_ticksOf 36 = .ok (.ireturn, 1) := by decide +kernel
theorem d_Ex_startRun_0 : decode b_Ex_startRun 0 = .ok (.aload_n 0, 1) := by decide +kernel
theorem d_Ex_startRun_1 : decode b_Ex_startRun 1 = .ok (.iconst 1, 1) := by decide +kernel
theorem d_Ex_startRun_2 : decode b_Ex_startRun 2 = .ok (.putfield 41, 3) := by decide +kernel
theorem d_Ex_startRun_5 : decode b_Ex_startRun 5 = .ok (.aload_n 0, 1) := by decide +kernel
theorem d_Ex_startRun_6 : decode b_Ex_startRun 6 = .ok (.iload_n 1, 1) := by decide +kernel
theorem d_Ex_startRun_7 : decode b_Ex_startRun 7 = .ok (.putfield 45, 3) := by decide +kernel
theorem d_Ex_startRun_10 : decode b_Ex_startRun 10 = .ok (.aload_n 0, 1) := by decide +kernel
theorem d_Ex_startRun_11 : decode b_Ex_startRun 11 = .ok (.iconst 0, 1) := by decide +kernel
theorem d_Ex_startRun_12 : decode b_Ex_startRun 12 = .ok (.putfield 49, 3) := by decide +kernel
theorem d_Ex_startRun_15 : decode b_Ex_startRun 15 = .ok (.aload_n 0, 1) := by decide +kernel
theorem d_Ex_startRun_16 : decode b_Ex_startRun 16 = .ok (.getfield 33, 3) := by decide +kernel
theorem d_Ex_startRun_19 : decode b_Ex_startRun 19 = .ok (.getfield 145, 3) := by decide +kernel
theorem d_Ex_startRun_22 : decode b_Ex_startRun 22 = .ok (.iconst 0, 1) := by decide +kernel
theorem d_Ex_startRun_23 : decode b_Ex_startRun 23 = .ok (.invokestatic 157, 3) := by decide +kernel
theorem d_Ex_startRun_26 : decode b_Ex_startRun 26 = .ok (.iconst 0, 1) := by decide +kernel
theorem d_Ex_startRun_27 : decode b_Ex_startRun 27 = .ok (.istore_n 2, 1) := by decide +kernel
theorem d_Ex_startRun_28 : decode b_Ex_startRun 28 = .ok (.iload_n 2, 1) := by decide +kernel
theorem d_Ex_startRun_29 : decode b_Ex_startRun 29 = .ok (.aload_n 0, 1) := by decide +kernel
theorem d_Ex_startRun_30 : decode b_Ex_startRun 30 = .ok (.getfield 10, 3) := by decide +kernel
theorem d_Ex_startRun_33 : decode b_Ex_startRun 33 = .ok (.getfield 62, 3) := by decide +kernel
theorem d_Ex_startRun_36 : decode b_Ex_startRun 36 = .ok (.if_icmp .ge 21, 3) := by decide +kernel
theorem d_Ex_startRun_39 : decode b_Ex_startRun 39 = .ok (.aload_n 0, 1) := by decide +kernel
theorem d_Ex_startRun_40 : decode b_Ex_startRun 40 = .ok (.getfield 10, 3) := by decide +kernel
theorem d_Ex_startRun_43 : decode b_Ex_startRun 43 = .ok (.getfield 85, 3) := by decide +kernel
theorem d_Ex_startRun_46 : decode b_Ex_startRun 46 = .ok (.iload_n 2, 1) := by decide +kernel
theorem d_Ex_startRun_47 : decode b_Ex_startRun 47 = .ok (.aaload, 1) := by decide +kernel
theorem d_Ex_startRun_48 : decode b_Ex_startRun 48 = .ok (.invokevirtual 163, 3) := by decide +kernel
theorem d_Ex_startRun_51 : decode b_Ex_startRun 51 = .ok (.iinc 2 1, 3) := by decide +kernel
theorem d_Ex_startRun_54 : decode b_Ex_startRun 54 = .ok (.goto (-26), 3) := by decide +kernel
theorem d_Ex_startRun_57 : decode b_Ex_startRun 57 = .ok (.return_, 1) := by decide +kernel
theorem d_Ex_stop_0 : decode b_Ex_stop 0 = .ok (.aload_n 0, 1) := by decide +kernel
theorem d_Ex_stop_1 : decode b_Ex_stop 1 = .ok (.invokevirtual 134, 3) := by decide +kernel
theorem d_Ex_stop_4 : decode b_Ex_stop 4 = .ok (.aload_n 0, 1) := by decide +kernel
theorem d_Ex_stop_5 : decode b_Ex_stop 5 = .ok (.iconst 0, 1) := by decide +kernel
theorem d_Ex_stop_6 : decode b_Ex_stop 6 = .ok (.putfield 41, 3) := by decide +kernel
theorem d_Ex_stop_9 : decode b_Ex_stop 9 = .ok (.return_, 1) := by decide +kernel
theorem d_Ex_needRun_0 : decode b_Ex_needRun 0 = .ok (.aload_n 0, 1) := by decide +kernel
theorem d_Ex_needRun_1 : decode b_Ex_needRun 1 = .ok (.getfield 41, 3) := by decide +kernel
theorem d_Ex_needRun_4 : decode b_Ex_needRun 4 = .ok (.ifCond .ne 13, 3) := by decide +kernel
theorem d_Ex_needRun_7 : decode b_Ex_needRun 7 = .ok (.new 65, 3) := by decide +kernel
theorem d_Ex_needRun_10 : decode b_Ex_needRun 10 = .ok (.dup, 1) := by decide +kernel
theorem d_Ex_needRun_11 : decode b_Ex_needRun 11 = .ok (.ldc 150, 2) := by decide +kernel
theorem d_Ex_needRun_13 : decode b_Ex_needRun 13 = .ok (.invokespecial 69, 3) := by decide +kernel
theorem d_Ex_needRun_16 : decode b_Ex_needRun 16 = .ok (.athrow, 1) := by decide +kernel
theorem d_Ex_needRun_17 : decode b_Ex_needRun 17 = .ok (.return_, 1) := by decide +kernel
theorem d_Ex_tick_0 : decode b_Ex_tick 0 = .ok (.aload_n 0, 1) := by decide +kernel
theorem d_Ex_tick_1 : decode b_Ex_tick 1 = .ok (.invokevirtual 134, 3) := by decide +kernel
theorem d_Ex_tick_4 : decode b_Ex_tick 4 = .ok (.aload_n 0, 1) := by decide +kernel
theorem d_Ex_tick_5 : decode b_Ex_tick 5 = .ok (.invokevirtual 137, 3) := by decide +kernel
theorem d_Ex_tick_8 : decode b_Ex_tick 8 = .ok (.ireturn, 1) := by decide +kernel
theorem d_Ex_runTick_0 : decode b_Ex_runTick 0 = .ok (.aload_n 0, 1) := by decide +kernel
theorem d_Ex_runTick_1 : decode b_Ex_runTick 1 = .ok (.getfield 10, 3) := by decide +kernel
theorem d_Ex_runTick_4 : decode b_Ex_runTick 4 = .ok (.aload_n 0, 1) := by decide +kernel
theorem d_Ex_runTick_5 : decode b_Ex_runTick 5 = .ok (.getfield 49, 3) := by decide +kernel
theorem d_Ex_runTick_8 : decode b_Ex_runTick 8 = .ok (.invokevirtual 166, 3) := by decide +kernel
theorem d_Ex_runTick_11 : decode b_Ex_runTick 11 = .ok (.aload_n 0, 1) := by decide +kernel
theorem d_Ex_runTick_12 : decode b_Ex_runTick 12 = .ok (.getfield 37, 3) := by decide +kernel
theorem d_Ex_runTick_15 : decode b_Ex_runTick 15 = .ok (.aload_n 0, 1) := by decide +kernel
theorem d_Ex_runTick_16 : decode b_Ex_runTick 16 = .ok (.getfield 49, 3) := by decide +kernel
theorem d_Ex_runTick_19 : decode b_Ex_runTick 19 = .ok (.aload_n 0, 1) := by decide +kernel
theorem d_Ex_runTick_20 : decode b_Ex_runTick 20 = .ok (.getfield 45, 3) := by decide +kernel
theorem d_Ex_runTick_23 : decode b_Ex_runTick 23 = .ok (.invokestatic 169, 3) := by decide +kernel
theorem d_Ex_runTick_26 : decode b_Ex_runTick 26 = .ok (.iaload, 1) := by decide +kernel
theorem d_Ex_runTick_27 : decode b_Ex_runTick 27 = .ok (.istore_n 1, 1) := by decide +kernel
theorem d_Ex_runTick_28 : decode b_Ex_runTick 28 = .ok (.iconst (-1), 1) := by decide +kernel
theorem d_Ex_runTick_29 : decode b_Ex_runTick 29 = .ok (.istore_n 2, 1) := by decide +kernel
theorem d_Ex_runTick_30 : decode b_Ex_runTick 30 = .ok (.iload_n 1, 1) := by decide +kernel
theorem d_Ex_runTick_31 : decode b_Ex_runTick 31 = .ok (.iconst (-1), 1) := by decide +kernel
theorem d_Ex_runTick_32 : decode b_Ex_runTick 32 = .ok (.if_icmp .eq 40, 3) := by decide +kernel
theorem d_Ex_runTick_35 : decode b_Ex_runTick 35 = .ok (.aload_n 0, 1) := by decide +kernel
theorem d_Ex_runTick_36 : decode b_Ex_runTick 36 = .ok (.getfield 10, 3) := by decide +kernel
theorem d_Ex_runTick_39 : decode b_Ex_runTick 39 = .ok (.getfield 85, 3) := by decide +kernel
theorem d_Ex_runTick_42 : decode b_Ex_runTick 42 = .ok (.iload_n 1, 1) := by decide +kernel
theorem d_Ex_runTick_43 : decode b_Ex_runTick 43 = .ok (.aaload, 1) := by decide +kernel
theorem d_Ex_runTick_44 : decode b_Ex_runTick 44 = .ok (.getfield 172, 3) := by decide +kernel
theorem d_Ex_runTick_47 : decode b_Ex_runTick 47 = .ok (.getfield 176, 3) := by decide +kernel
theorem d_Ex_runTick_50 : decode b_Ex_runTick 50 = .ok (.ifCond .eq 22, 3) := by decide +kernel
theorem d_Ex_runTick_53 : decode b_Ex_runTick 53 = .ok (.iload_n 1, 1) := by decide +kernel
theorem d_Ex_runTick_54 : decode b_Ex_runTick 54 = .ok (.bipush 100, 2) := by decide +kernel
theorem d_Ex_runTick_56 : decode b_Ex_runTick 56 = .ok (.aload_n 0, 1) := by decide +kernel
theorem d_Ex_runTick_57 : decode b_Ex_runTick 57 = .ok (.aload_n 0, 1) := by decide +kernel
theorem d_Ex_runTick_58 : decode b_Ex_runTick 58 = .ok (.getfield 10, 3) := by decide +kernel
theorem d_Ex_runTick_61 : decode b_Ex_runTick 61 = .ok (.getfield 85, 3) := by decide +kernel
theorem d_Ex_runTick_64 : decode b_Ex_runTick 64 = .ok (.iload_n 1, 1) := by decide +kernel
theorem d_Ex_runTick_65 : decode b_Ex_runTick 65 = .ok (.aaload, 1) := by decide +kernel
theorem d_Ex_runTick_66 : decode b_Ex_runTick 66 = .ok (.invokevirtual 181, 3) := by decide +kernel
theorem d_Ex_runTick_69 : decode b_Ex_runTick 69 = .ok (.imul, 1) := by decide +kernel
theorem d_Ex_runTick_70 : decode b_Ex_runTick 70 = .ok (.iadd, 1) := by decide +kernel
theorem d_Ex_runTick_71 : decode b_Ex_runTick 71 = .ok (.istore_n 2, 1) := by decide +kernel
theorem d_Ex_runTick_72 : decode b_Ex_runTick 72 = .ok (.aload_n 0, 1) := by decide +kernel
theorem d_Ex_runTick_73 : decode b_Ex_runTick 73 = .ok (.dup, 1) := by decide +kernel
theorem d_Ex_runTick_74 : decode b_Ex_runTick 74 = .ok (.getfield 49, 3) := by decide +kernel
theorem d_Ex_runTick_77 : decode b_Ex_runTick 77 = .ok (.iconst 1, 1) := by decide +kernel
theorem d_Ex_runTick_78 : decode b_Ex_runTick 78 = .ok (.iadd, 1) := by decide +kernel
theorem d_Ex_runTick_79 : decode b_Ex_runTick 79 = .ok (.putfield 49, 3) := by decide +kernel
theorem d_Ex_runTick_82 : decode b_Ex_runTick 82 = .ok (.iload_n 2, 1) := by decide +kernel
theorem d_Ex_runTick_83 : decode b_Ex_runTick 83 = .ok (.ireturn, 1) := by decide +kernel
theorem d_Tl_releaseJobs_0 : decode b_Tl_releaseJobs 0 = .ok (.iconst 0, 1) := by decide +kernel
theorem d_Tl_releaseJobs_1 : decode b_Tl_releaseJobs 1 = .ok (.istore_n 2, 1) := by decide +kernel
theorem d_Tl_releaseJobs_2 : decode b_Tl_releaseJobs 2 = .ok (.iload_n 2, 1) := by decide +kernel
theorem d_Tl_releaseJobs_3 : decode b_Tl_releaseJobs 3 = .ok (.aload_n 0, 1) := by decide +kernel
theorem d_Tl_releaseJobs_4 : decode b_Tl_releaseJobs 4 = .ok (.getfield 18, 3) := by decide +kernel
theorem d_Tl_releaseJobs_7 : decode b_Tl_releaseJobs 7 = .ok (.if_icmp .ge 44, 3) := by decide +kernel
theorem d_Tl_releaseJobs_10 : decode b_Tl_releaseJobs 10 = .ok (.aload_n 0, 1) := by decide +kernel
theorem d_Tl_releaseJobs_11 : decode b_Tl_releaseJobs 11 = .ok (.getfield 11, 3) := by decide +kernel
theorem d_Tl_releaseJobs_14 : decode b_Tl_releaseJobs 14 = .ok (.iload_n 2, 1) := by decide +kernel
theorem d_Tl_releaseJobs_15 : decode b_Tl_releaseJobs 15 = .ok (.aaload, 1) := by decide +kernel
theorem d_Tl_releaseJobs_16 : decode b_Tl_releaseJobs 16 = .ok (.iload_n 1, 1) := by decide +kernel
theorem d_Tl_releaseJobs_17 : decode b_Tl_releaseJobs 17 = .ok (.invokevirtual 54, 3) := by decide +kernel
theorem d_Tl_releaseJobs_20 : decode b_Tl_releaseJobs 20 = .ok (.ifCond .eq 25, 3) := by decide +kernel
theorem d_Tl_releaseJobs_23 : decode b_Tl_releaseJobs 23 = .ok (.aload_n 0, 1) := by decide +kernel
theorem d_Tl_releaseJobs_24 : decode b_Tl_releaseJobs 24 = .ok (.getfield 11, 3) := by decide +kernel
theorem d_Tl_releaseJobs_27 : decode b_Tl_releaseJobs 27 = .ok (.iload_n 2, 1) := by decide +kernel
theorem d_Tl_releaseJobs_28 : decode b_Tl_releaseJobs 28 = .ok (.aaload, 1) := by decide +kernel
theorem d_Tl_releaseJobs_29 : decode b_Tl_releaseJobs 29 = .ok (.getfield 57, 3) := by decide +kernel
theorem d_Tl_releaseJobs_32 : decode b_Tl_releaseJobs 32 = .ok (.aload_n 0, 1) := by decide +kernel
theorem d_Tl_releaseJobs_33 : decode b_Tl_releaseJobs 33 = .ok (.getfield 11, 3) := by decide +kernel
theorem d_Tl_releaseJobs_36 : decode b_Tl_releaseJobs 36 = .ok (.iload_n 2, 1) := by decide +kernel
theorem d_Tl_releaseJobs_37 : decode b_Tl_releaseJobs 37 = .ok (.aaload, 1) := by decide +kernel
theorem d_Tl_releaseJobs_38 : decode b_Tl_releaseJobs 38 = .ok (.getfield 34, 3) := by decide +kernel
theorem d_Tl_releaseJobs_41 : decode b_Tl_releaseJobs 41 = .ok (.iload_n 1, 1) := by decide +kernel
theorem d_Tl_releaseJobs_42 : decode b_Tl_releaseJobs 42 = .ok (.invokevirtual 61, 3) := by decide +kernel
theorem d_Tl_releaseJobs_45 : decode b_Tl_releaseJobs 45 = .ok (.iinc 2 1, 3) := by decide +kernel
theorem d_Tl_releaseJobs_48 : decode b_Tl_releaseJobs 48 = .ok (.goto (-46), 3) := by decide +kernel
theorem d_Tl_releaseJobs_51 : decode b_Tl_releaseJobs 51 = .ok (.return_, 1) := by decide +kernel
theorem d_Jb_start_0 : decode b_Jb_start 0 = .ok (.aload_n 0, 1) := by decide +kernel
theorem d_Jb_start_1 : decode b_Jb_start 1 = .ok (.getfield 9, 3) := by decide +kernel
theorem d_Jb_start_4 : decode b_Jb_start 4 = .ok (.iconst 0, 1) := by decide +kernel
theorem d_Jb_start_5 : decode b_Jb_start 5 = .ok (.invokestatic 15, 3) := by decide +kernel
theorem d_Jb_start_8 : decode b_Jb_start 8 = .ok (.aload_n 0, 1) := by decide +kernel
theorem d_Jb_start_9 : decode b_Jb_start 9 = .ok (.iload_n 1, 1) := by decide +kernel
theorem d_Jb_start_10 : decode b_Jb_start 10 = .ok (.putfield 21, 3) := by decide +kernel
theorem d_Jb_start_13 : decode b_Jb_start 13 = .ok (.aload_n 0, 1) := by decide +kernel
theorem d_Jb_start_14 : decode b_Jb_start 14 = .ok (.iconst 0, 1) := by decide +kernel
theorem d_Jb_start_15 : decode b_Jb_start 15 = .ok (.putfield 25, 3) := by decide +kernel
theorem d_Jb_start_18 : decode b_Jb_start 18 = .ok (.aload_n 0, 1) := by decide +kernel
theorem d_Jb_start_19 : decode b_Jb_start 19 = .ok (.iload_n 2, 1) := by decide +kernel
theorem d_Jb_start_20 : decode b_Jb_start 20 = .ok (.putfield 28, 3) := by decide +kernel
theorem d_Jb_start_23 : decode b_Jb_start 23 = .ok (.aload_n 0, 1) := by decide +kernel
theorem d_Jb_start_24 : decode b_Jb_start 24 = .ok (.iconst 1, 1) := by decide +kernel
theorem d_Jb_start_25 : decode b_Jb_start 25 = .ok (.putfield 31, 3) := by decide +kernel
theorem d_Jb_start_28 : decode b_Jb_start 28 = .ok (.return_, 1) := by decide +kernel
theorem d_Ma_floorMod_0 : decode b_Ma_floorMod 0 = .ok (.iload_n 0, 1) := by decide +kernel
theorem d_Ma_floorMod_1 : decode b_Ma_floorMod 1 = .ok (.iload_n 1, 1) := by decide +kernel
theorem d_Ma_floorMod_2 : decode b_Ma_floorMod 2 = .ok (.irem, 1) := by decide +kernel
theorem d_Ma_floorMod_3 : decode b_Ma_floorMod 3 = .ok (.istore_n 2, 1) := by decide +kernel
theorem d_Ma_floorMod_4 : decode b_Ma_floorMod 4 = .ok (.iload_n 0, 1) := by decide +kernel
theorem d_Ma_floorMod_5 : decode b_Ma_floorMod 5 = .ok (.iload_n 1, 1) := by decide +kernel
theorem d_Ma_floorMod_6 : decode b_Ma_floorMod 6 = .ok (.ixor, 1) := by decide +kernel
theorem d_Ma_floorMod_7 : decode b_Ma_floorMod 7 = .ok (.ifCond .ge 11, 3) := by decide +kernel
theorem d_Ma_floorMod_10 : decode b_Ma_floorMod 10 = .ok (.iload_n 2, 1) := by decide +kernel
theorem d_Ma_floorMod_11 : decode b_Ma_floorMod 11 = .ok (.ifCond .eq 7, 3) := by decide +kernel
theorem d_Ma_floorMod_14 : decode b_Ma_floorMod 14 = .ok (.iload_n 2, 1) := by decide +kernel
theorem d_Ma_floorMod_15 : decode b_Ma_floorMod 15 = .ok (.iload_n 1, 1) := by decide +kernel
theorem d_Ma_floorMod_16 : decode b_Ma_floorMod 16 = .ok (.iadd, 1) := by decide +kernel
theorem d_Ma_floorMod_17 : decode b_Ma_floorMod 17 = .ok (.ireturn, 1) := by decide +kernel
theorem d_Ma_floorMod_18 : decode b_Ma_floorMod 18 = .ok (.iload_n 2, 1) := by decide +kernel
theorem d_Ma_floorMod_19 : decode b_Ma_floorMod 19 = .ok (.ireturn, 1) := by decide +kernel
theorem d_Ex_serve_0 : decode b_Ex_serve 0 = .ok (.aload_n 1, 1) := by decide +kernel
theorem d_Ex_serve_1 : decode b_Ex_serve 1 = .ok (.getfield 172, 3) := by decide +kernel
theorem d_Ex_serve_4 : decode b_Ex_serve 4 = .ok (.astore_n 2, 1) := by decide +kernel
theorem d_Ex_serve_5 : decode b_Ex_serve 5 = .ok (.aload_n 0, 1) := by decide +kernel
theorem d_Ex_serve_6 : decode b_Ex_serve 6 = .ok (.getfield 33, 3) := by decide +kernel
theorem d_Ex_serve_9 : decode b_Ex_serve 9 = .ok (.aload_n 2, 1) := by decide +kernel
theorem d_Ex_serve_10 : decode b_Ex_serve 10 = .ok (.invokevirtual 185, 3) := by decide +kernel
theorem d_Ex_serve_13 : decode b_Ex_serve 13 = .ok (.istore_n 3, 1) := by decide +kernel
theorem d_Ex_serve_14 : decode b_Ex_serve 14 = .ok (.aload_n 2, 1) := by decide +kernel
theorem d_Ex_serve_15 : decode b_Ex_serve 15 = .ok (.dup, 1) := by decide +kernel
theorem d_Ex_serve_16 : decode b_Ex_serve 16 = .ok (.getfield 189, 3) := by decide +kernel
theorem d_Ex_serve_19 : decode b_Ex_serve 19 = .ok (.iconst 1, 1) := by decide +kernel
theorem d_Ex_serve_20 : decode b_Ex_serve 20 = .ok (.iadd, 1) := by decide +kernel
theorem d_Ex_serve_21 : decode b_Ex_serve 21 = .ok (.putfield 189, 3) := by decide +kernel
theorem d_Ex_serve_24 : decode b_Ex_serve 24 = .ok (.iload_n 3, 1) := by decide +kernel
theorem d_Ex_serve_25 : decode b_Ex_serve 25 = .ok (.ifCond .ne 16, 3) := by decide +kernel
theorem d_Ex_serve_28 : decode b_Ex_serve 28 = .ok (.aload_n 2, 1) := by decide +kernel
theorem d_Ex_serve_29 : decode b_Ex_serve 29 = .ok (.getfield 189, 3) := by decide +kernel
theorem d_Ex_serve_32 : decode b_Ex_serve 32 = .ok (.aload_n 1, 1) := by decide +kernel
theorem d_Ex_serve_33 : decode b_Ex_serve 33 = .ok (.getfield 192, 3) := by decide +kernel
theorem d_Ex_serve_36 : decode b_Ex_serve 36 = .ok (.if_icmp .lt 5, 3) := by decide +kernel
theorem d_Ex_serve_39 : decode b_Ex_serve 39 = .ok (.iconst 3, 1) := by decide +kernel
theorem d_Ex_serve_40 : decode b_Ex_serve 40 = .ok (.istore_n 3, 1) := by decide +kernel
theorem d_Ex_serve_41 : decode b_Ex_serve 41 = .ok (.iload_n 3, 1) := by decide +kernel
theorem d_Ex_serve_42 : decode b_Ex_serve 42 = .ok (.ifCond .eq 14, 3) := by decide +kernel
theorem d_Ex_serve_45 : decode b_Ex_serve 45 = .ok (.aload_n 1, 1) := by decide +kernel
theorem d_Ex_serve_46 : decode b_Ex_serve 46 = .ok (.iload_n 3, 1) := by decide +kernel
theorem d_Ex_serve_47 : decode b_Ex_serve 47 = .ok (.aload_n 0, 1) := by decide +kernel
theorem d_Ex_serve_48 : decode b_Ex_serve 48 = .ok (.getfield 49, 3) := by decide +kernel
theorem d_Ex_serve_51 : decode b_Ex_serve 51 = .ok (.iconst 1, 1) := by decide +kernel
theorem d_Ex_serve_52 : decode b_Ex_serve 52 = .ok (.iadd, 1) := by decide +kernel
theorem d_Ex_serve_53 : decode b_Ex_serve 53 = .ok (.invokevirtual 195, 3) := by decide +kernel
theorem d_Ex_serve_56 : decode b_Ex_serve 56 = .ok (.iload_n 3, 1) := by decide +kernel
theorem d_Ex_serve_57 : decode b_Ex_serve 57 = .ok (.ireturn, 1) := by decide +kernel
theorem d_Mc_step_0 : decode b_Mc_step 0 = .ok (.aload_n 0, 1) := by decide +kernel
theorem d_Mc_step_1 : decode b_Mc_step 1 = .ok (.getfield 9, 3) := by decide +kernel
theorem d_Mc_step_4 : decode b_Mc_step 4 = .ok (.aload_n 1, 1) := by decide +kernel
theorem d_Mc_step_5 : decode b_Mc_step 5 = .ok (.getfield 18, 3) := by decide +kernel
theorem d_Mc_step_8 : decode b_Mc_step 8 = .ok (.iaload, 1) := by decide +kernel
theorem d_Mc_step_9 : decode b_Mc_step 9 = .ok (.istore_n 2, 1) := by decide +kernel
theorem d_Mc_step_10 : decode b_Mc_step 10 = .ok (.aload_n 1, 1) := by decide +kernel
theorem d_Mc_step_11 : decode b_Mc_step 11 = .ok (.aload_n 1, 1) := by decide +kernel
theorem d_Mc_step_12 : decode b_Mc_step 12 = .ok (.getfield 18, 3) := by decide +kernel
theorem d_Mc_step_15 : decode b_Mc_step 15 = .ok (.iconst 1, 1) := by decide +kernel
theorem d_Mc_step_16 : decode b_Mc_step 16 = .ok (.iadd, 1) := by decide +kernel
theorem d_Mc_step_17 : decode b_Mc_step 17 = .ok (.invokestatic 24, 3) := by decide +kernel
theorem d_Mc_step_20 : decode b_Mc_step 20 = .ok (.putfield 18, 3) := by decide +kernel
theorem d_Mc_step_23 : decode b_Mc_step 23 = .ok (.iload_n 2, 1) := by decide +kernel
theorem d_Mc_step_24 : decode b_Mc_step 24 = .ok (.iconst 4, 1) := by decide +kernel
theorem d_Mc_step_25 : decode b_Mc_step 25 = .ok (.ishr, 1) := by decide +kernel
theorem d_Mc_step_26 : decode b_Mc_step 26 = .ok (.iconst 3, 1) := by decide +kernel
theorem d_Mc_step_27 : decode b_Mc_step 27 = .ok (.iand, 1) := by decide +kernel
theorem d_Mc_step_28 : decode b_Mc_step 28 = .ok (.istore_n 3, 1) := by decide +kernel
theorem d_Mc_step_29 : decode b_Mc_step 29 = .ok (.iload_n 2, 1) := by decide +kernel
theorem d_Mc_step_30 : decode b_Mc_step 30 = .ok (.bipush 6, 2) := by decide +kernel
theorem d_Mc_step_32 : decode b_Mc_step 32 = .ok (.ishr, 1) := by decide +kernel
theorem d_Mc_step_33 : decode b_Mc_step 33 = .ok (.iconst 3, 1) := by decide +kernel
theorem d_Mc_step_34 : decode b_Mc_step 34 = .ok (.iand, 1) := by decide +kernel
theorem d_Mc_step_35 : decode b_Mc_step 35 = .ok (.istore 4, 2) := by decide +kernel
theorem d_Mc_step_37 : decode b_Mc_step 37 = .ok (.iload_n 2, 1) := by decide +kernel
theorem d_Mc_step_38 : decode b_Mc_step 38 = .ok (.bipush 8, 2) := by decide +kernel
theorem d_Mc_step_40 : decode b_Mc_step 40 = .ok (.ishr, 1) := by decide +kernel
theorem d_Mc_step_41 : decode b_Mc_step 41 = .ok (.istore 5, 2) := by decide +kernel
theorem d_Mc_step_43 : decode b_Mc_step 43 = .ok (.aload_n 1, 1) := by decide +kernel
theorem d_Mc_step_44 : decode b_Mc_step 44 = .ok (.getfield 28, 3) := by decide +kernel
theorem d_Mc_step_47 : decode b_Mc_step 47 = .ok (.astore 6, 2) := by decide +kernel
theorem d_Mc_step_49 : decode b_Mc_step 49 = .ok (.iload_n 2, 1) := by decide +kernel
theorem d_Mc_step_50 : decode b_Mc_step 50 = .ok (.bipush 15, 2) := by decide +kernel
theorem d_Mc_step_52 : decode b_Mc_step 52 = .ok (.iand, 1) := by decide +kernel
theorem d_Mc_step_53 : decode b_Mc_step 53 = .ok (.tableswitch 219 0 10 #[59, 61, 70, 85, 100, 115, 135, 155, 176, 197, 207], 59) := by decide +kernel
theorem d_Mc_step_112 : decode b_Mc_step 112 = .ok (.iconst 1, 1) := by decide +kernel
theorem d_Mc_step_113 : decode b_Mc_step 113 = .ok (.ireturn, 1) := by decide +kernel
theorem d_Mc_step_114 : decode b_Mc_step 114 = .ok (.aload 6, 2) := by decide +kernel
theorem d_Mc_step_116 : decode b_Mc_step 116 = .ok (.iload_n 3, 1) := by decide +kernel
theorem d_Mc_step_117 : decode b_Mc_step 117 = .ok (.iload 5, 2) := by decide +kernel
theorem d_Mc_step_119 : decode b_Mc_step 119 = .ok (.iastore, 1) := by decide +kernel
theorem d_Mc_step_120 : decode b_Mc_step 120 = .ok (.goto 154, 3) := by decide +kernel
theorem d_Mc_step_123 : decode b_Mc_step 123 = .ok (.aload 6, 2) := by decide +kernel
theorem d_Mc_step_125 : decode b_Mc_step 125 = .ok (.iload_n 3, 1) := by decide +kernel
theorem d_Mc_step_126 : decode b_Mc_step 126 = .ok (.dup2, 1) := by decide +kernel
theorem d_Mc_step_127 : decode b_Mc_step 127 = .ok (.iaload, 1) := by decide +kernel
theorem d_Mc_step_128 : decode b_Mc_step 128 = .ok (.aload 6, 2) := by decide +kernel
theorem d_Mc_step_130 : decode b_Mc_step 130 = .ok (.iload 4, 2) := by decide +kernel
theorem d_Mc_step_132 : decode b_Mc_step 132 = .ok (.iaload, 1) := by decide +kernel
theorem d_Mc_step_133 : decode b_Mc_step 133 = .ok (.iadd, 1) := by decide +kernel
theorem d_Mc_step_134 : decode b_Mc_step 134 = .ok (.iastore, 1) := by decide +kernel
theorem d_Mc_step_135 : decode b_Mc_step 135 = .ok (.goto 139, 3) := by decide +kernel
theorem d_Mc_step_138 : decode b_Mc_step 138 = .ok (.aload 6, 2) := by decide +kernel
theorem d_Mc_step_140 : decode b_Mc_step 140 = .ok (.iload_n 3, 1) := by decide +kernel
theorem d_Mc_step_141 : decode b_Mc_step 141 = .ok (.dup2, 1) := by decide +kernel
theorem d_Mc_step_142 : decode b_Mc_step 142 = .ok (.iaload, 1) := by decide +kernel
theorem d_Mc_step_143 : decode b_Mc_step 143 = .ok (.aload 6, 2) := by decide +kernel
theorem d_Mc_step_145 : decode b_Mc_step 145 = .ok (.iload 4, 2) := by decide +kernel
theorem d_Mc_step_147 : decode b_Mc_step 147 = .ok (.iaload, 1) := by decide +kernel
theorem d_Mc_step_148 : decode b_Mc_step 148 = .ok (.isub, 1) := by decide +kernel
theorem d_Mc_step_149 : decode b_Mc_step 149 = .ok (.iastore, 1) := by decide +kernel
theorem d_Mc_step_150 : decode b_Mc_step 150 = .ok (.goto 124, 3) := by decide +kernel
theorem d_Mc_step_153 : decode b_Mc_step 153 = .ok (.aload 6, 2) := by decide +kernel
theorem d_Mc_step_155 : decode b_Mc_step 155 = .ok (.iload_n 3, 1) := by decide +kernel
theorem d_Mc_step_156 : decode b_Mc_step 156 = .ok (.dup2, 1) := by decide +kernel
theorem d_Mc_step_157 : decode b_Mc_step 157 = .ok (.iaload, 1) := by decide +kernel
theorem d_Mc_step_158 : decode b_Mc_step 158 = .ok (.aload 6, 2) := by decide +kernel
theorem d_Mc_step_160 : decode b_Mc_step 160 = .ok (.iload 4, 2) := by decide +kernel
theorem d_Mc_step_162 : decode b_Mc_step 162 = .ok (.iaload, 1) := by decide +kernel
theorem d_Mc_step_163 : decode b_Mc_step 163 = .ok (.imul, 1) := by decide +kernel
theorem d_Mc_step_164 : decode b_Mc_step 164 = .ok (.iastore, 1) := by decide +kernel
theorem d_Mc_step_165 : decode b_Mc_step 165 = .ok (.goto 109, 3) := by decide +kernel
theorem d_Mc_step_168 : decode b_Mc_step 168 = .ok (.aload 6, 2) := by decide +kernel
theorem d_Mc_step_170 : decode b_Mc_step 170 = .ok (.iload_n 3, 1) := by decide +kernel
theorem d_Mc_step_171 : decode b_Mc_step 171 = .ok (.aload_n 0, 1) := by decide +kernel
theorem d_Mc_step_172 : decode b_Mc_step 172 = .ok (.getfield 15, 3) := by decide +kernel
theorem d_Mc_step_175 : decode b_Mc_step 175 = .ok (.aload 6, 2) := by decide +kernel
theorem d_Mc_step_177 : decode b_Mc_step 177 = .ok (.iload 4, 2) := by decide +kernel
theorem d_Mc_step_179 : decode b_Mc_step 179 = .ok (.iaload, 1) := by decide +kernel
theorem d_Mc_step_180 : decode b_Mc_step 180 = .ok (.bipush 15, 2) := by decide +kernel
theorem d_Mc_step_182 : decode b_Mc_step 182 = .ok (.iand, 1) := by decide +kernel
theorem d_Mc_step_183 : decode b_Mc_step 183 = .ok (.iaload, 1) := by decide +kernel
theorem d_Mc_step_184 : decode b_Mc_step 184 = .ok (.iastore, 1) := by decide +kernel
theorem d_Mc_step_185 : decode b_Mc_step 185 = .ok (.goto 89, 3) := by decide +kernel
theorem d_Mc_step_188 : decode b_Mc_step 188 = .ok (.aload_n 0, 1) := by decide +kernel
theorem d_Mc_step_189 : decode b_Mc_step 189 = .ok (.getfield 15, 3) := by decide +kernel
theorem d_Mc_step_192 : decode b_Mc_step 192 = .ok (.aload 6, 2) := by decide +kernel
theorem d_Mc_step_194 : decode b_Mc_step 194 = .ok (.iload 4, 2) := by decide +kernel
theorem d_Mc_step_196 : decode b_Mc_step 196 = .ok (.iaload, 1) := by decide +kernel
theorem d_Mc_step_197 : decode b_Mc_step 197 = .ok (.bipush 15, 2) := by decide +kernel
theorem d_Mc_step_199 : decode b_Mc_step 199 = .ok (.iand, 1) := by decide +kernel
theorem d_Mc_step_200 : decode b_Mc_step 200 = .ok (.aload 6, 2) := by decide +kernel
theorem d_Mc_step_202 : decode b_Mc_step 202 = .ok (.iload_n 3, 1) := by decide +kernel
theorem d_Mc_step_203 : decode b_Mc_step 203 = .ok (.iaload, 1) := by decide +kernel
theorem d_Mc_step_204 : decode b_Mc_step 204 = .ok (.iastore, 1) := by decide +kernel
theorem d_Mc_step_205 : decode b_Mc_step 205 = .ok (.goto 69, 3) := by decide +kernel
theorem d_Mc_step_208 : decode b_Mc_step 208 = .ok (.aload 6, 2) := by decide +kernel
theorem d_Mc_step_210 : decode b_Mc_step 210 = .ok (.iload_n 3, 1) := by decide +kernel
theorem d_Mc_step_211 : decode b_Mc_step 211 = .ok (.iaload, 1) := by decide +kernel
theorem d_Mc_step_212 : decode b_Mc_step 212 = .ok (.ifCond .ne 7, 3) := by decide +kernel
theorem d_Mc_step_215 : decode b_Mc_step 215 = .ok (.iconst 1, 1) := by decide +kernel
theorem d_Mc_step_216 : decode b_Mc_step 216 = .ok (.goto 4, 3) := by decide +kernel
theorem d_Mc_step_219 : decode b_Mc_step 219 = .ok (.iconst 0, 1) := by decide +kernel
theorem d_Mc_step_220 : decode b_Mc_step 220 = .ok (.iload 5, 2) := by decide +kernel
theorem d_Mc_step_222 : decode b_Mc_step 222 = .ok (.aload_n 1, 1) := by decide +kernel
theorem d_Mc_step_223 : decode b_Mc_step 223 = .ok (.invokestatic 31, 3) := by decide +kernel
theorem d_Mc_step_226 : decode b_Mc_step 226 = .ok (.goto 48, 3) := by decide +kernel
theorem d_Mc_step_229 : decode b_Mc_step 229 = .ok (.aload 6, 2) := by decide +kernel
theorem d_Mc_step_231 : decode b_Mc_step 231 = .ok (.iload_n 3, 1) := by decide +kernel
theorem d_Mc_step_232 : decode b_Mc_step 232 = .ok (.iaload, 1) := by decide +kernel
theorem d_Mc_step_233 : decode b_Mc_step 233 = .ok (.ifCond .ge 7, 3) := by decide +kernel
theorem d_Mc_step_236 : decode b_Mc_step 236 = .ok (.iconst 1, 1) := by decide +kernel
theorem d_Mc_step_237 : decode b_Mc_step 237 = .ok (.goto 4, 3) := by decide +kernel
theorem d_Mc_step_240 : decode b_Mc_step 240 = .ok (.iconst 0, 1) := by decide +kernel
theorem d_Mc_step_241 : decode b_Mc_step 241 = .ok (.iload 5, 2) := by decide +kernel
theorem d_Mc_step_243 : decode b_Mc_step 243 = .ok (.aload_n 1, 1) := by decide +kernel
theorem d_Mc_step_244 : decode b_Mc_step 244 = .ok (.invokestatic 31, 3) := by decide +kernel
theorem d_Mc_step_247 : decode b_Mc_step 247 = .ok (.goto 27, 3) := by decide +kernel
theorem d_Mc_step_250 : decode b_Mc_step 250 = .ok (.iconst 1, 1) := by decide +kernel
theorem d_Mc_step_251 : decode b_Mc_step 251 = .ok (.iload 5, 2) := by decide +kernel
theorem d_Mc_step_253 : decode b_Mc_step 253 = .ok (.aload_n 1, 1) := by decide +kernel
theorem d_Mc_step_254 : decode b_Mc_step 254 = .ok (.invokestatic 31, 3) := by decide +kernel
theorem d_Mc_step_257 : decode b_Mc_step 257 = .ok (.goto 17, 3) := by decide +kernel
theorem d_Mc_step_260 : decode b_Mc_step 260 = .ok (.aload 6, 2) := by decide +kernel
theorem d_Mc_step_262 : decode b_Mc_step 262 = .ok (.iload_n 3, 1) := by decide +kernel
theorem d_Mc_step_263 : decode b_Mc_step 263 = .ok (.dup2, 1) := by decide +kernel
theorem d_Mc_step_264 : decode b_Mc_step 264 = .ok (.iaload, 1) := by decide +kernel
theorem d_Mc_step_265 : decode b_Mc_step 265 = .ok (.iload 5, 2) := by decide +kernel
theorem d_Mc_step_267 : decode b_Mc_step 267 = .ok (.iadd, 1) := by decide +kernel
theorem d_Mc_step_268 : decode b_Mc_step 268 = .ok (.iastore, 1) := by decide +kernel
theorem d_Mc_step_269 : decode b_Mc_step 269 = .ok (.goto 5, 3) := by decide +kernel
theorem d_Mc_step_272 : decode b_Mc_step 272 = .ok (.iconst 2, 1) := by decide +kernel
theorem d_Mc_step_273 : decode b_Mc_step 273 = .ok (.ireturn, 1) := by decide +kernel
theorem d_Mc_step_274 : decode b_Mc_step 274 = .ok (.iconst 0, 1) := by decide +kernel
theorem d_Mc_step_275 : decode b_Mc_step 275 = .ok (.ireturn, 1) := by decide +kernel
theorem d_Mc_placeOf_0 : decode b_Mc_placeOf 0 = .ok (.iload_n 0, 1) := by decide +kernel
theorem d_Mc_placeOf_1 : decode b_Mc_placeOf 1 = .ok (.bipush 63, 2) := by decide +kernel
theorem d_Mc_placeOf_3 : decode b_Mc_placeOf 3 = .ok (.iand, 1) := by decide +kernel
theorem d_Mc_placeOf_4 : decode b_Mc_placeOf 4 = .ok (.ireturn, 1) := by decide +kernel
theorem d_Mc_jumpIf_0 : decode b_Mc_jumpIf 0 = .ok (.iload_n 0, 1) := by decide +kernel
theorem d_Mc_jumpIf_1 : decode b_Mc_jumpIf 1 = .ok (.ifCond .eq 11, 3) := by decide +kernel
theorem d_Mc_jumpIf_4 : decode b_Mc_jumpIf 4 = .ok (.aload_n 2, 1) := by decide +kernel
theorem d_Mc_jumpIf_5 : decode b_Mc_jumpIf 5 = .ok (.iload_n 1, 1) := by decide +kernel
theorem d_Mc_jumpIf_6 : decode b_Mc_jumpIf 6 = .ok (.invokestatic 24, 3) := by decide +kernel
theorem d_Mc_jumpIf_9 : decode b_Mc_jumpIf 9 = .ok (.putfield 18, 3) := by decide +kernel
theorem d_Mc_jumpIf_12 : decode b_Mc_jumpIf 12 = .ok (.return_, 1) := by decide +kernel
theorem d_Tk_endJob_0 : decode b_Tk_endJob 0 = .ok (.aload_n 0, 1) := by decide +kernel
theorem d_Tk_endJob_1 : decode b_Tk_endJob 1 = .ok (.getfield 18, 3) := by decide +kernel
theorem d_Tk_endJob_4 : decode b_Tk_endJob 4 = .ok (.iconst 0, 1) := by decide +kernel
theorem d_Tk_endJob_5 : decode b_Tk_endJob 5 = .ok (.putfield 29, 3) := by decide +kernel
theorem d_Tk_endJob_8 : decode b_Tk_endJob 8 = .ok (.aload_n 0, 1) := by decide +kernel
theorem d_Tk_endJob_9 : decode b_Tk_endJob 9 = .ok (.getfield 22, 3) := by decide +kernel
theorem d_Tk_endJob_12 : decode b_Tk_endJob 12 = .ok (.iload_n 1, 1) := by decide +kernel
theorem d_Tk_endJob_13 : decode b_Tk_endJob 13 = .ok (.iconst 1, 1) := by decide +kernel
theorem d_Tk_endJob_14 : decode b_Tk_endJob 14 = .ok (.isub, 1) := by decide +kernel
theorem d_Tk_endJob_15 : decode b_Tk_endJob 15 = .ok (.dup2, 1) := by decide +kernel
theorem d_Tk_endJob_16 : decode b_Tk_endJob 16 = .ok (.iaload, 1) := by decide +kernel
theorem d_Tk_endJob_17 : decode b_Tk_endJob 17 = .ok (.iconst 1, 1) := by decide +kernel
theorem d_Tk_endJob_18 : decode b_Tk_endJob 18 = .ok (.iadd, 1) := by decide +kernel
theorem d_Tk_endJob_19 : decode b_Tk_endJob 19 = .ok (.iastore, 1) := by decide +kernel
theorem d_Tk_endJob_20 : decode b_Tk_endJob 20 = .ok (.iload_n 1, 1) := by decide +kernel
theorem d_Tk_endJob_21 : decode b_Tk_endJob 21 = .ok (.iconst 1, 1) := by decide +kernel
theorem d_Tk_endJob_22 : decode b_Tk_endJob 22 = .ok (.if_icmp .ne 27, 3) := by decide +kernel
theorem d_Tk_endJob_25 : decode b_Tk_endJob 25 = .ok (.aload_n 0, 1) := by decide +kernel
theorem d_Tk_endJob_26 : decode b_Tk_endJob 26 = .ok (.getfield 22, 3) := by decide +kernel
theorem d_Tk_endJob_29 : decode b_Tk_endJob 29 = .ok (.iconst 3, 1) := by decide +kernel
theorem d_Tk_endJob_30 : decode b_Tk_endJob 30 = .ok (.aload_n 0, 1) := by decide +kernel
theorem d_Tk_endJob_31 : decode b_Tk_endJob 31 = .ok (.getfield 22, 3) := by decide +kernel
theorem d_Tk_endJob_34 : decode b_Tk_endJob 34 = .ok (.iconst 3, 1) := by decide +kernel
theorem d_Tk_endJob_35 : decode b_Tk_endJob 35 = .ok (.iaload, 1) := by decide +kernel
theorem d_Tk_endJob_36 : decode b_Tk_endJob 36 = .ok (.iload_n 2, 1) := by decide +kernel
theorem d_Tk_endJob_37 : decode b_Tk_endJob 37 = .ok (.aload_n 0, 1) := by decide +kernel
theorem d_Tk_endJob_38 : decode b_Tk_endJob 38 = .ok (.getfield 18, 3) := by decide +kernel
theorem d_Tk_endJob_41 : decode b_Tk_endJob 41 = .ok (.getfield 39, 3) := by decide +kernel
theorem d_Tk_endJob_44 : decode b_Tk_endJob 44 = .ok (.isub, 1) := by decide +kernel
theorem d_Tk_endJob_45 : decode b_Tk_endJob 45 = .ok (.invokestatic 42, 3) := by decide +kernel
theorem d_Tk_endJob_48 : decode b_Tk_endJob 48 = .ok (.iastore, 1) := by decide +kernel
theorem d_Tk_endJob_49 : decode b_Tk_endJob 49 = .ok (.return_, 1) := by decide +kernel
theorem d_Ex_ticks_0 : decode b_Ex_ticks 0 = .ok (.aload_n 0, 1) := by decide +kernel
theorem d_Ex_ticks_1 : decode b_Ex_ticks 1 = .ok (.invokevirtual 134, 3) := by decide +kernel
theorem d_Ex_ticks_4 : decode b_Ex_ticks 4 = .ok (.iload_n 1, 1) := by decide +kernel
theorem d_Ex_ticks_5 : decode b_Ex_ticks 5 = .ok (.iconst 1, 1) := by decide +kernel
theorem d_Ex_ticks_6 : decode b_Ex_ticks 6 = .ok (.if_icmp .lt 10, 3) := by decide +kernel
theorem d_Ex_ticks_9 : decode b_Ex_ticks 9 = .ok (.iload_n 1, 1) := by decide +kernel
theorem d_Ex_ticks_10 : decode b_Ex_ticks 10 = .ok (.sipush 500, 3) := by decide +kernel
theorem d_Ex_ticks_13 : decode b_Ex_ticks 13 = .ok (.if_icmp .le 13, 3) := by decide +kernel
theorem d_Ex_ticks_16 : decode b_Ex_ticks 16 = .ok (.new 76, 3) := by decide +kernel
theorem d_Ex_ticks_19 : decode b_Ex_ticks 19 = .ok (.dup, 1) := by decide +kernel
theorem d_Ex_ticks_20 : decode b_Ex_ticks 20 = .ok (.ldc 140, 2) := by decide +kernel
theorem d_Ex_ticks_22 : decode b_Ex_ticks 22 = .ok (.invokespecial 80, 3) := by decide +kernel
theorem d_Ex_ticks_25 : decode b_Ex_ticks 25 = .ok (.athrow, 1) := by decide +kernel
theorem d_Ex_ticks_26 : decode b_Ex_ticks 26 = .ok (.iconst 0, 1) := by decide +kernel
theorem d_Ex_ticks_27 : decode b_Ex_ticks 27 = .ok (.istore_n 2, 1) := by decide +kernel
theorem d_Ex_ticks_28 : decode b_Ex_ticks 28 = .ok (.iconst 0, 1) := by decide +kernel
theorem d_Ex_ticks_29 : decode b_Ex_ticks 29 = .ok (.istore_n 3, 1) := by decide +kernel
theorem d_Ex_ticks_30 : decode b_Ex_ticks 30 = .ok (.iload_n 3, 1) := by decide +kernel
theorem d_Ex_ticks_31 : decode b_Ex_ticks 31 = .ok (.iload_n 1, 1) := by decide +kernel
theorem d_Ex_ticks_32 : decode b_Ex_ticks 32 = .ok (.if_icmp .ge 20, 3) := by decide +kernel
theorem d_Ex_ticks_35 : decode b_Ex_ticks 35 = .ok (.aload_n 0, 1) := by decide +kernel
theorem d_Ex_ticks_36 : decode b_Ex_ticks 36 = .ok (.invokevirtual 137, 3) := by decide +kernel
theorem d_Ex_ticks_39 : decode b_Ex_ticks 39 = .ok (.iconst (-1), 1) := by decide +kernel
theorem d_Ex_ticks_40 : decode b_Ex_ticks 40 = .ok (.if_icmp .eq 6, 3) := by decide +kernel
theorem d_Ex_ticks_43 : decode b_Ex_ticks 43 = .ok (.iinc 2 1, 3) := by decide +kernel
theorem d_Ex_ticks_46 : decode b_Ex_ticks 46 = .ok (.iinc 3 1, 3) := by decide +kernel
theorem d_Ex_ticks_49 : decode b_Ex_ticks 49 = .ok (.goto (-19), 3) := by decide +kernel
theorem d_Ex_ticks_52 : decode b_Ex_ticks 52 = .ok (.iload_n 2, 1) := by decide +kernel
theorem d_Ex_ticks_53 : decode b_Ex_ticks 53 = .ok (.ireturn, 1) := by decide +kernel
theorem d_Ex_count_0 : decode b_Ex_count 0 = .ok (.iload_n 1, 1) := by decide +kernel
theorem d_Ex_count_1 : decode b_Ex_count 1 = .ok (.aload_n 0, 1) := by decide +kernel
theorem d_Ex_count_2 : decode b_Ex_count 2 = .ok (.getfield 10, 3) := by decide +kernel
theorem d_Ex_count_5 : decode b_Ex_count 5 = .ok (.getfield 62, 3) := by decide +kernel
theorem d_Ex_count_8 : decode b_Ex_count 8 = .ok (.invokestatic 55, 3) := by decide +kernel
theorem d_Ex_count_11 : decode b_Ex_count 11 = .ok (.iload_n 2, 1) := by decide +kernel
theorem d_Ex_count_12 : decode b_Ex_count 12 = .ok (.iconst 4, 1) := by decide +kernel
theorem d_Ex_count_13 : decode b_Ex_count 13 = .ok (.invokestatic 55, 3) := by decide +kernel
theorem d_Ex_count_16 : decode b_Ex_count 16 = .ok (.aload_n 0, 1) := by decide +kernel
theorem d_Ex_count_17 : decode b_Ex_count 17 = .ok (.getfield 10, 3) := by decide +kernel
theorem d_Ex_count_20 : decode b_Ex_count 20 = .ok (.getfield 85, 3) := by decide +kernel
theorem d_Ex_count_23 : decode b_Ex_count 23 = .ok (.iload_n 1, 1) := by decide +kernel
theorem d_Ex_count_24 : decode b_Ex_count 24 = .ok (.aaload, 1) := by decide +kernel
theorem d_Ex_count_25 : decode b_Ex_count 25 = .ok (.getfield 142, 3) := by decide +kernel
theorem d_Ex_count_28 : decode b_Ex_count 28 = .ok (.iload_n 2, 1) := by decide +kernel
theorem d_Ex_count_29 : decode b_Ex_count 29 = .ok (.iaload, 1) := by decide +kernel
theorem d_Ex_count_30 : decode b_Ex_count 30 = .ok (.ireturn, 1) := by decide +kernel
theorem d_Ex_shared_0 : decode b_Ex_shared 0 = .ok (.iload_n 1, 1) := by decide +kernel
theorem d_Ex_shared_1 : decode b_Ex_shared 1 = .ok (.bipush 16, 2) := by decide +kernel
theorem d_Ex_shared_3 : decode b_Ex_shared 3 = .ok (.invokestatic 55, 3) := by decide +kernel
theorem d_Ex_shared_6 : decode b_Ex_shared 6 = .ok (.aload_n 0, 1) := by decide +kernel
theorem d_Ex_shared_7 : decode b_Ex_shared 7 = .ok (.getfield 33, 3) := by decide +kernel
theorem d_Ex_shared_10 : decode b_Ex_shared 10 = .ok (.getfield 145, 3) := by decide +kernel
theorem d_Ex_shared_13 : decode b_Ex_shared 13 = .ok (.iload_n 1, 1) := by decide +kernel
theorem d_Ex_shared_14 : decode b_Ex_shared 14 = .ok (.iaload, 1) := by decide +kernel
theorem d_Ex_shared_15 : decode b_Ex_shared 15 = .ok (.ireturn, 1) := by decide +kernel
end
section
theorem d_Md_init_0 : decode b_Md_init 0 = .ok (.aload_n 0, 1) := by decide +kernel
theorem d_Md_init_1 : decode b_Md_init 1 = .ok (.invokespecial 1, 3) := by decide +kernel
theorem d_Md_init_4 : decode b_Md_init 4 = .ok (.aload_n 0, 1) := by decide +kernel
theorem d_Md_init_5 : decode b_Md_init 5 = .ok (.bipush 6, 2) := by decide +kernel
theorem d_Md_init_7 : decode b_Md_init 7 = .ok (.newarray .int, 2) := by decide +kernel
theorem d_Md_init_9 : decode b_Md_init 9 = .ok (.putfield 7, 3) := by decide +kernel
theorem d_Md_init_12 : decode b_Md_init 12 = .ok (.aload_n 0, 1) := by decide +kernel
theorem d_Md_init_13 : decode b_Md_init 13 = .ok (.bipush 6, 2) := by decide +kernel
theorem d_Md_init_15 : decode b_Md_init 15 = .ok (.newarray .int, 2) := by decide +kernel
theorem d_Md_init_17 : decode b_Md_init 17 = .ok (.putfield 13, 3) := by decide +kernel
theorem d_Md_init_20 : decode b_Md_init 20 = .ok (.aload_n 0, 1) := by decide +kernel
theorem d_Md_init_21 : decode b_Md_init 21 = .ok (.bipush 6, 2) := by decide +kernel
theorem d_Md_init_23 : decode b_Md_init 23 = .ok (.newarray .int, 2) := by decide +kernel
theorem d_Md_init_25 : decode b_Md_init 25 = .ok (.putfield 16, 3) := by decide +kernel
theorem d_Md_init_28 : decode b_Md_init 28 = .ok (.aload_n 0, 1) := by decide +kernel
theorem d_Md_init_29 : decode b_Md_init 29 = .ok (.bipush 6, 2) := by decide +kernel
theorem d_Md_init_31 : decode b_Md_init 31 = .ok (.newarray .int, 2) := by decide +kernel
theorem d_Md_init_33 : decode b_Md_init 33 = .ok (.putfield 19, 3) := by decide +kernel
theorem d_Md_init_36 : decode b_Md_init 36 = .ok (.aload_n 0, 1) := by decide +kernel
theorem d_Md_init_37 : decode b_Md_init 37 = .ok (.bipush 6, 2) := by decide +kernel
theorem d_Md_init_39 : decode b_Md_init 39 = .ok (.newarray .int, 2) := by decide +kernel
theorem d_Md_init_41 : decode b_Md_init 41 = .ok (.putfield 22, 3) := by decide +kernel
theorem d_Md_init_44 : decode b_Md_init 44 = .ok (.aload_n 0, 1) := by decide +kernel
theorem d_Md_init_45 : decode b_Md_init 45 = .ok (.bipush 60, 2) := by decide +kernel
theorem d_Md_init_47 : decode b_Md_init 47 = .ok (.newarray .int, 2) := by decide +kernel
theorem d_Md_init_49 : decode b_Md_init 49 = .ok (.putfield 25, 3) := by decide +kernel
theorem d_Md_init_52 : decode b_Md_init 52 = .ok (.aload_n 0, 1) := by decide +kernel
theorem d_Md_init_53 : decode b_Md_init 53 = .ok (.bipush 60, 2) := by decide +kernel
theorem d_Md_init_55 : decode b_Md_init 55 = .ok (.newarray .int, 2) := by decide +kernel
theorem d_Md_init_57 : decode b_Md_init 57 = .ok (.putfield 28, 3) := by decide +kernel
theorem d_Md_init_60 : decode b_Md_init 60 = .ok (.aload_n 0, 1) := by decide +kernel
theorem d_Md_init_61 : decode b_Md_init 61 = .ok (.bipush 60, 2) := by decide +kernel
theorem d_Md_init_63 : decode b_Md_init 63 = .ok (.newarray .int, 2) := by decide +kernel
theorem d_Md_init_65 : decode b_Md_init 65 = .ok (.putfield 31, 3) := by decide +kernel
theorem d_Md_init_68 : decode b_Md_init 68 = .ok (.aload_n 0, 1) := by decide +kernel
theorem d_Md_init_69 : decode b_Md_init 69 = .ok (.bipush 64, 2) := by decide +kernel
theorem d_Md_init_71 : decode b_Md_init 71 = .ok (.newarray .int, 2) := by decide +kernel
theorem d_Md_init_73 : decode b_Md_init 73 = .ok (.putfield 34, 3) := by decide +kernel
theorem d_Md_init_76 : decode b_Md_init 76 = .ok (.aload_n 0, 1) := by decide +kernel
theorem d_Md_init_77 : decode b_Md_init 77 = .ok (.bipush 16, 2) := by decide +kernel
theorem d_Md_init_79 : decode b_Md_init 79 = .ok (.newarray .int, 2) := by decide +kernel
theorem d_Md_init_81 : decode b_Md_init 81 = .ok (.putfield 37, 3) := by decide +kernel
theorem d_Md_init_84 : decode b_Md_init 84 = .ok (.aload_n 0, 1) := by decide +kernel
theorem d_Md_init_85 : decode b_Md_init 85 = .ok (.bipush 6, 2) := by decide +kernel
theorem d_Md_init_87 : decode b_Md_init 87 = .ok (.newarray .boolean, 2) := by decide +kernel
theorem d_Md_init_89 : decode b_Md_init 89 = .ok (.putfield 40, 3) := by decide +kernel
theorem d_Md_init_92 : decode b_Md_init 92 = .ok (.aload_n 0, 1) := by decide +kernel
theorem d_Md_init_93 : decode b_Md_init 93 = .ok (.bipush 6, 2) := by decide +kernel
theorem d_Md_init_95 : decode b_Md_init 95 = .ok (.newarray .int, 2) := by decide +kernel
theorem d_Md_init_97 : decode b_Md_init 97 = .ok (.putfield 44, 3) := by decide +kernel
theorem d_Md_init_100 : decode b_Md_init 100 = .ok (.aload_n 0, 1) := by decide +kernel
theorem d_Md_init_101 : decode b_Md_init 101 = .ok (.bipush 6, 2) := by decide +kernel
theorem d_Md_init_103 : decode b_Md_init 103 = .ok (.newarray .int, 2) := by decide +kernel
theorem d_Md_init_105 : decode b_Md_init 105 = .ok (.putfield 47, 3) := by decide +kernel
theorem d_Md_init_108 : decode b_Md_init 108 = .ok (.aload_n 0, 1) := by decide +kernel
theorem d_Md_init_109 : decode b_Md_init 109 = .ok (.bipush 6, 2) := by decide +kernel
theorem d_Md_init_111 : decode b_Md_init 111 = .ok (.newarray .int, 2) := by decide +kernel
theorem d_Md_init_113 : decode b_Md_init 113 = .ok (.putfield 50, 3) := by decide +kernel
theorem d_Md_init_116 : decode b_Md_init 116 = .ok (.aload_n 0, 1) := by decide +kernel
theorem d_Md_init_117 : decode b_Md_init 117 = .ok (.bipush 24, 2) := by decide +kernel
theorem d_Md_init_119 : decode b_Md_init 119 = .ok (.newarray .int, 2) := by decide +kernel
theorem d_Md_init_121 : decode b_Md_init 121 = .ok (.putfield 53, 3) := by decide +kernel
theorem d_Md_init_124 : decode b_Md_init 124 = .ok (.aload_n 0, 1) := by decide +kernel
theorem d_Md_init_125 : decode b_Md_init 125 = .ok (.bipush 24, 2) := by decide +kernel
theorem d_Md_init_127 : decode b_Md_init 127 = .ok (.newarray .int, 2) := by decide +kernel
theorem d_Md_init_129 : decode b_Md_init 129 = .ok (.putfield 56, 3) := by decide +kernel
theorem d_Md_init_132 : decode b_Md_init 132 = .ok (.aload_n 0, 1) := by decide +kernel
theorem d_Md_init_133 : decode b_Md_init 133 = .ok (.sipush 240, 3) := by decide +kernel
theorem d_Md_init_136 : decode b_Md_init 136 = .ok (.newarray .int, 2) := by decide +kernel
theorem d_Md_init_138 : decode b_Md_init 138 = .ok (.putfield 59, 3) := by decide +kernel
theorem d_Md_init_141 : decode b_Md_init 141 = .ok (.return_, 1) := by decide +kernel
theorem d_Md_thrown_0 : decode b_Md_thrown 0 = .ok (.aload_n 0, 1) := by decide +kernel
theorem d_Md_thrown_1 : decode b_Md_thrown 1 = .ok (.getfield 62, 3) := by decide +kernel
theorem d_Md_thrown_4 : decode b_Md_thrown 4 = .ok (.ireturn, 1) := by decide +kernel
theorem d_Md_load_0 : decode b_Md_load 0 = .ok (.aload_n 0, 1) := by decide +kernel
theorem d_Md_load_1 : decode b_Md_load 1 = .ok (.aload_n 0, 1) := by decide +kernel
theorem d_Md_load_2 : decode b_Md_load 2 = .ok (.getfield 66, 3) := by decide +kernel
theorem d_Md_load_5 : decode b_Md_load 5 = .ok (.ifCond .eq 7, 3) := by decide +kernel
theorem d_Md_load_8 : decode b_Md_load 8 = .ok (.iconst 1, 1) := by decide +kernel
theorem d_Md_load_9 : decode b_Md_load 9 = .ok (.goto 18, 3) := by decide +kernel
theorem d_Md_load_12 : decode b_Md_load 12 = .ok (.iload_n 1, 1) := by decide +kernel
theorem d_Md_load_13 : decode b_Md_load 13 = .ok (.ifCond .lt 9, 3) := by decide +kernel
theorem d_Md_load_16 : decode b_Md_load 16 = .ok (.iload_n 1, 1) := by decide +kernel
theorem d_Md_load_17 : decode b_Md_load 17 = .ok (.bipush 63, 2) := by decide +kernel
theorem d_Md_load_19 : decode b_Md_load 19 = .ok (.if_icmp .le 7, 3) := by decide +kernel
theorem d_Md_load_22 : decode b_Md_load 22 = .ok (.iconst 2, 1) := by decide +kernel
theorem d_Md_load_23 : decode b_Md_load 23 = .ok (.goto 4, 3) := by decide +kernel
theorem d_Md_load_26 : decode b_Md_load 26 = .ok (.iconst 0, 1) := by decide +kernel
theorem d_Md_load_27 : decode b_Md_load 27 = .ok (.invokevirtual 70, 3) := by decide +kernel
theorem d_Md_load_30 : decode b_Md_load 30 = .ok (.ifCond .ne 10, 3) := by decide +kernel
theorem d_Md_load_33 : decode b_Md_load 33 = .ok (.aload_n 0, 1) := by decide +kernel
theorem d_Md_load_34 : decode b_Md_load 34 = .ok (.getfield 34, 3) := by decide +kernel
theorem d_Md_load_37 : decode b_Md_load 37 = .ok (.iload_n 1, 1) := by decide +kernel
theorem d_Md_load_38 : decode b_Md_load 38 = .ok (.iload_n 2, 1) := by decide +kernel
theorem d_Md_load_39 : decode b_Md_load 39 = .ok (.iastore, 1) := by decide +kernel
theorem d_Md_load_40 : decode b_Md_load 40 = .ok (.return_, 1) := by decide +kernel
theorem d_Md_refused_0 : decode b_Md_refused 0 = .ok (.aload_n 0, 1) := by decide +kernel
theorem d_Md_refused_1 : decode b_Md_refused 1 = .ok (.iload_n 1, 1) := by decide +kernel
theorem d_Md_refused_2 : decode b_Md_refused 2 = .ok (.putfield 62, 3) := by decide +kernel
theorem d_Md_refused_5 : decode b_Md_refused 5 = .ok (.iload_n 1, 1) := by decide +kernel
theorem d_Md_refused_6 : decode b_Md_refused 6 = .ok (.ifCond .le 7, 3) := by decide +kernel
theorem d_Md_refused_9 : decode b_Md_refused 9 = .ok (.iconst 1, 1) := by decide +kernel
theorem d_Md_refused_10 : decode b_Md_refused 10 = .ok (.goto 4, 3) := by decide +kernel
theorem d_Md_refused_13 : decode b_Md_refused 13 = .ok (.iconst 0, 1) := by decide +kernel
theorem d_Md_refused_14 : decode b_Md_refused 14 = .ok (.ireturn, 1) := by decide +kernel
theorem d_Md_task_0 : decode b_Md_task 0 = .ok (.iload_n 1, 1) := by decide +kernel
theorem d_Md_task_1 : decode b_Md_task 1 = .ok (.iconst 1, 1) := by decide +kernel
theorem d_Md_task_2 : decode b_Md_task 2 = .ok (.if_icmp .lt 40, 3) := by decide +kernel
theorem d_Md_task_5 : decode b_Md_task 5 = .ok (.iload_n 1, 1) := by decide +kernel
theorem d_Md_task_6 : decode b_Md_task 6 = .ok (.bipush 48, 2) := by decide +kernel
theorem d_Md_task_8 : decode b_Md_task 8 = .ok (.if_icmp .gt 34, 3) := by decide +kernel
theorem d_Md_task_11 : decode b_Md_task 11 = .ok (.iload_n 2, 1) := by decide +kernel
theorem d_Md_task_12 : decode b_Md_task 12 = .ok (.iconst 1, 1) := by decide +kernel
theorem d_Md_task_13 : decode b_Md_task 13 = .ok (.if_icmp .lt 29, 3) := by decide +kernel
theorem d_Md_task_16 : decode b_Md_task 16 = .ok (.iload_n 2, 1) := by decide +kernel
theorem d_Md_task_17 : decode b_Md_task 17 = .ok (.iload_n 3, 1) := by decide +kernel
theorem d_Md_task_18 : decode b_Md_task 18 = .ok (.if_icmp .gt 24, 3) := by decide +kernel
theorem d_Md_task_21 : decode b_Md_task 21 = .ok (.iload_n 3, 1) := by decide +kernel
theorem d_Md_task_22 : decode b_Md_task 22 = .ok (.iload_n 1, 1) := by decide +kernel
theorem d_Md_task_23 : decode b_Md_task 23 = .ok (.if_icmp .gt 19, 3) := by decide +kernel
theorem d_Md_task_26 : decode b_Md_task 26 = .ok (.iload 4, 2) := by decide +kernel
theorem d_Md_task_28 : decode b_Md_task 28 = .ok (.ifCond .lt 14, 3) := by decide +kernel
theorem d_Md_task_31 : decode b_Md_task 31 = .ok (.iload 4, 2) := by decide +kernel
theorem d_Md_task_33 : decode b_Md_task 33 = .ok (.bipush 48, 2) := by decide +kernel
theorem d_Md_task_35 : decode b_Md_task 35 = .ok (.if_icmp .gt 7, 3) := by decide +kernel
theorem d_Md_task_38 : decode b_Md_task 38 = .ok (.iconst 1, 1) := by decide +kernel
theorem d_Md_task_39 : decode b_Md_task 39 = .ok (.goto 4, 3) := by decide +kernel
theorem d_Md_task_42 : decode b_Md_task 42 = .ok (.iconst 0, 1) := by decide +kernel
theorem d_Md_task_43 : decode b_Md_task 43 = .ok (.istore 5, 2) := by decide +kernel
theorem d_Md_task_45 : decode b_Md_task 45 = .ok (.aload_n 0, 1) := by decide +kernel
theorem d_Md_task_46 : decode b_Md_task 46 = .ok (.aload_n 0, 1) := by decide +kernel
theorem d_Md_task_47 : decode b_Md_task 47 = .ok (.getfield 66, 3) := by decide +kernel
theorem d_Md_task_50 : decode b_Md_task 50 = .ok (.ifCond .ne 12, 3) := by decide +kernel
theorem d_Md_task_53 : decode b_Md_task 53 = .ok (.aload_n 0, 1) := by decide +kernel
theorem d_Md_task_54 : decode b_Md_task 54 = .ok (.getfield 74, 3) := by decide +kernel
theorem d_Md_task_57 : decode b_Md_task 57 = .ok (.bipush 6, 2) := by decide +kernel
theorem d_Md_task_59 : decode b_Md_task 59 = .ok (.if_icmp .ne 7, 3) := by decide +kernel
theorem d_Md_task_62 : decode b_Md_task 62 = .ok (.iconst 1, 1) := by decide +kernel
theorem d_Md_task_63 : decode b_Md_task 63 = .ok (.goto 13, 3) := by decide +kernel
theorem d_Md_task_66 : decode b_Md_task 66 = .ok (.iload 5, 2) := by decide +kernel
theorem d_Md_task_68 : decode b_Md_task 68 = .ok (.ifCond .eq 7, 3) := by decide +kernel
theorem d_Md_task_71 : decode b_Md_task 71 = .ok (.iconst 0, 1) := by decide +kernel
theorem d_Md_task_72 : decode b_Md_task 72 = .ok (.goto 4, 3) := by decide +kernel
theorem d_Md_task_75 : decode b_Md_task 75 = .ok (.iconst 2, 1) := by decide +kernel
theorem d_Md_task_76 : decode b_Md_task 76 = .ok (.invokevirtual 70, 3) := by decide +kernel
theorem d_Md_task_79 : decode b_Md_task 79 = .ok (.ifCond .eq 5, 3) := by decide +kernel
theorem d_Md_task_82 : decode b_Md_task 82 = .ok (.iconst 0, 1) := by decide +kernel
theorem d_Md_task_83 : decode b_Md_task 83 = .ok (.ireturn, 1) := by decide +kernel
theorem d_Md_task_84 : decode b_Md_task 84 = .ok (.aload_n 0, 1) := by decide +kernel
theorem d_Md_task_85 : decode b_Md_task 85 = .ok (.getfield 7, 3) := by decide +kernel
theorem d_Md_task_88 : decode b_Md_task 88 = .ok (.aload_n 0, 1) := by decide +kernel
theorem d_Md_task_89 : decode b_Md_task 89 = .ok (.getfield 74, 3) := by decide +kernel
theorem d_Md_task_92 : decode b_Md_task 92 = .ok (.iload_n 1, 1) := by decide +kernel
theorem d_Md_task_93 : decode b_Md_task 93 = .ok (.iastore, 1) := by decide +kernel
theorem d_Md_task_94 : decode b_Md_task 94 = .ok (.aload_n 0, 1) := by decide +kernel
theorem d_Md_task_95 : decode b_Md_task 95 = .ok (.getfield 13, 3) := by decide +kernel
theorem d_Md_task_98 : decode b_Md_task 98 = .ok (.aload_n 0, 1) := by decide +kernel
theorem d_Md_task_99 : decode b_Md_task 99 = .ok (.getfield 74, 3) := by decide +kernel
theorem d_Md_task_102 : decode b_Md_task 102 = .ok (.iload_n 2, 1) := by decide +kernel
theorem d_Md_task_103 : decode b_Md_task 103 = .ok (.iastore, 1) := by decide +kernel
theorem d_Md_task_104 : decode b_Md_task 104 = .ok (.aload_n 0, 1) := by decide +kernel
theorem d_Md_task_105 : decode b_Md_task 105 = .ok (.getfield 16, 3) := by decide +kernel
theorem d_Md_task_108 : decode b_Md_task 108 = .ok (.aload_n 0, 1) := by decide +kernel
theorem d_Md_task_109 : decode b_Md_task 109 = .ok (.getfield 74, 3) := by decide +kernel
theorem d_Md_task_112 : decode b_Md_task 112 = .ok (.iload_n 3, 1) := by decide +kernel
theorem d_Md_task_113 : decode b_Md_task 113 = .ok (.iastore, 1) := by decide +kernel
theorem d_Md_task_114 : decode b_Md_task 114 = .ok (.aload_n 0, 1) := by decide +kernel
theorem d_Md_task_115 : decode b_Md_task 115 = .ok (.getfield 19, 3) := by decide +kernel
theorem d_Md_task_118 : decode b_Md_task 118 = .ok (.aload_n 0, 1) := by decide +kernel
theorem d_Md_task_119 : decode b_Md_task 119 = .ok (.getfield 74, 3) := by decide +kernel
theorem d_Md_task_122 : decode b_Md_task 122 = .ok (.iload 4, 2) := by decide +kernel
theorem d_Md_task_124 : decode b_Md_task 124 = .ok (.iastore, 1) := by decide +kernel
theorem d_Md_task_125 : decode b_Md_task 125 = .ok (.aload_n 0, 1) := by decide +kernel
theorem d_Md_task_126 : decode b_Md_task 126 = .ok (.getfield 22, 3) := by decide +kernel
theorem d_Md_task_129 : decode b_Md_task 129 = .ok (.aload_n 0, 1) := by decide +kernel
theorem d_Md_task_130 : decode b_Md_task 130 = .ok (.getfield 74, 3) := by decide +kernel
theorem d_Md_task_133 : decode b_Md_task 133 = .ok (.bipush 8, 2) := by decide +kernel
theorem d_Md_task_135 : decode b_Md_task 135 = .ok (.aload_n 0, 1) := by decide +kernel
theorem d_Md_task_136 : decode b_Md_task 136 = .ok (.getfield 74, 3) := by decide +kernel
theorem d_Md_task_139 : decode b_Md_task 139 = .ok (.imul, 1) := by decide +kernel
theorem d_Md_task_140 : decode b_Md_task 140 = .ok (.iastore, 1) := by decide +kernel
theorem d_Md_task_141 : decode b_Md_task 141 = .ok (.iconst 0, 1) := by decide +kernel
theorem d_Md_task_142 : decode b_Md_task 142 = .ok (.istore 6, 2) := by decide +kernel
theorem d_Md_task_144 : decode b_Md_task 144 = .ok (.iload 6, 2) := by decide +kernel
theorem d_Md_task_146 : decode b_Md_task 146 = .ok (.iconst 4, 1) := by decide +kernel
theorem d_Md_task_147 : decode b_Md_task 147 = .ok (.if_icmp .ge 24, 3) := by decide +kernel
theorem d_Md_task_150 : decode b_Md_task 150 = .ok (.aload_n 0, 1) := by decide +kernel
theorem d_Md_task_151 : decode b_Md_task 151 = .ok (.getfield 56, 3) := by decide +kernel
theorem d_Md_task_154 : decode b_Md_task 154 = .ok (.iconst 4, 1) := by decide +kernel
theorem d_Md_task_155 : decode b_Md_task 155 = .ok (.aload_n 0, 1) := by decide +kernel
theorem d_Md_task_156 : decode b_Md_task 156 = .ok (.getfield 74, 3) := by decide +kernel
theorem d_Md_task_159 : decode b_Md_task 159 = .ok (.imul, 1) := by decide +kernel
theorem d_Md_task_160 : decode b_Md_task 160 = .ok (.iload 6, 2) := by decide +kernel
theorem d_Md_task_162 : decode b_Md_task 162 = .ok (.iadd, 1) := by decide +kernel
theorem d_Md_task_163 : decode b_Md_task 163 = .ok (.iconst 0, 1) := by decide +kernel
theorem d_Md_task_164 : decode b_Md_task 164 = .ok (.iastore, 1) := by decide +kernel
theorem d_Md_task_165 : decode b_Md_task 165 = .ok (.iinc 6 1, 3) := by decide +kernel
theorem d_Md_task_168 : decode b_Md_task 168 = .ok (.goto (-24), 3) := by decide +kernel
theorem d_Md_task_171 : decode b_Md_task 171 = .ok (.aload_n 0, 1) := by decide +kernel
theorem d_Md_task_172 : decode b_Md_task 172 = .ok (.dup, 1) := by decide +kernel
theorem d_Md_task_173 : decode b_Md_task 173 = .ok (.getfield 74, 3) := by decide +kernel
theorem d_Md_task_176 : decode b_Md_task 176 = .ok (.iconst 1, 1) := by decide +kernel
theorem d_Md_task_177 : decode b_Md_task 177 = .ok (.iadd, 1) := by decide +kernel
theorem d_Md_task_178 : decode b_Md_task 178 = .ok (.putfield 74, 3) := by decide +kernel
theorem d_Md_task_181 : decode b_Md_task 181 = .ok (.aload_n 0, 1) := by decide +kernel
theorem d_Md_task_182 : decode b_Md_task 182 = .ok (.getfield 74, 3) := by decide +kernel
theorem d_Md_task_185 : decode b_Md_task 185 = .ok (.iconst 1, 1) := by decide +kernel
theorem d_Md_task_186 : decode b_Md_task 186 = .ok (.isub, 1) := by decide +kernel
theorem d_Md_task_187 : decode b_Md_task 187 = .ok (.ireturn, 1) := by decide +kernel
theorem d_Md_entry_0 : decode b_Md_entry 0 = .ok (.aload_n 0, 1) := by decide +kernel
theorem d_Md_entry_1 : decode b_Md_entry 1 = .ok (.aload_n 0, 1) := by decide +kernel
theorem d_Md_entry_2 : decode b_Md_entry 2 = .ok (.getfield 66, 3) := by decide +kernel
theorem d_Md_entry_5 : decode b_Md_entry 5 = .ok (.ifCond .eq 7, 3) := by decide +kernel
theorem d_Md_entry_8 : decode b_Md_entry 8 = .ok (.iconst 1, 1) := by decide +kernel
theorem d_Md_entry_9 : decode b_Md_entry 9 = .ok (.goto 30, 3) := by decide +kernel
theorem d_Md_entry_12 : decode b_Md_entry 12 = .ok (.iload_n 1, 1) := by decide +kernel
theorem d_Md_entry_13 : decode b_Md_entry 13 = .ok (.ifCond .lt 21, 3) := by decide +kernel
theorem d_Md_entry_16 : decode b_Md_entry 16 = .ok (.iload_n 1, 1) := by decide +kernel
theorem d_Md_entry_17 : decode b_Md_entry 17 = .ok (.aload_n 0, 1) := by decide +kernel
theorem d_Md_entry_18 : decode b_Md_entry 18 = .ok (.getfield 74, 3) := by decide +kernel
theorem d_Md_entry_21 : decode b_Md_entry 21 = .ok (.if_icmp .ge 13, 3) := by decide +kernel
theorem d_Md_entry_24 : decode b_Md_entry 24 = .ok (.iload_n 2, 1) := by decide +kernel
theorem d_Md_entry_25 : decode b_Md_entry 25 = .ok (.ifCond .lt 9, 3) := by decide +kernel
theorem d_Md_entry_28 : decode b_Md_entry 28 = .ok (.iload_n 2, 1) := by decide +kernel
theorem d_Md_entry_29 : decode b_Md_entry 29 = .ok (.bipush 63, 2) := by decide +kernel
theorem d_Md_entry_31 : decode b_Md_entry 31 = .ok (.if_icmp .le 7, 3) := by decide +kernel
theorem d_Md_entry_34 : decode b_Md_entry 34 = .ok (.iconst 2, 1) := by decide +kernel
theorem d_Md_entry_35 : decode b_Md_entry 35 = .ok (.goto 4, 3) := by decide +kernel
theorem d_Md_entry_38 : decode b_Md_entry 38 = .ok (.iconst 0, 1) := by decide +kernel
theorem d_Md_entry_39 : decode b_Md_entry 39 = .ok (.invokevirtual 70, 3) := by decide +kernel
theorem d_Md_entry_42 : decode b_Md_entry 42 = .ok (.ifCond .ne 10, 3) := by decide +kernel
theorem d_Md_entry_45 : decode b_Md_entry 45 = .ok (.aload_n 0, 1) := by decide +kernel
theorem d_Md_entry_46 : decode b_Md_entry 46 = .ok (.getfield 22, 3) := by decide +kernel
theorem d_Md_entry_49 : decode b_Md_entry 49 = .ok (.iload_n 1, 1) := by decide +kernel
theorem d_Md_entry_50 : decode b_Md_entry 50 = .ok (.iload_n 2, 1) := by decide +kernel
theorem d_Md_entry_51 : decode b_Md_entry 51 = .ok (.iastore, 1) := by decide +kernel
theorem d_Md_entry_52 : decode b_Md_entry 52 = .ok (.return_, 1) := by decide +kernel
theorem d_Md_clear_0 : decode b_Md_clear 0 = .ok (.aload_n 0, 1) := by decide +kernel
theorem d_Md_clear_1 : decode b_Md_clear 1 = .ok (.aload_n 0, 1) := by decide +kernel
theorem d_Md_clear_2 : decode b_Md_clear 2 = .ok (.getfield 66, 3) := by decide +kernel
theorem d_Md_clear_5 : decode b_Md_clear 5 = .ok (.ifCond .eq 7, 3) := by decide +kernel
theorem d_Md_clear_8 : decode b_Md_clear 8 = .ok (.iconst 1, 1) := by decide +kernel
theorem d_Md_clear_9 : decode b_Md_clear 9 = .ok (.goto 4, 3) := by decide +kernel
theorem d_Md_clear_12 : decode b_Md_clear 12 = .ok (.iconst 0, 1) := by decide +kernel
theorem d_Md_clear_13 : decode b_Md_clear 13 = .ok (.invokevirtual 70, 3) := by decide +kernel
theorem d_Md_clear_16 : decode b_Md_clear 16 = .ok (.ifCond .ne 13, 3) := by decide +kernel
theorem d_Md_clear_19 : decode b_Md_clear 19 = .ok (.aload_n 0, 1) := by decide +kernel
theorem d_Md_clear_20 : decode b_Md_clear 20 = .ok (.iconst 0, 1) := by decide +kernel
theorem d_Md_clear_21 : decode b_Md_clear 21 = .ok (.putfield 74, 3) := by decide +kernel
theorem d_Md_clear_24 : decode b_Md_clear 24 = .ok (.aload_n 0, 1) := by decide +kernel
theorem d_Md_clear_25 : decode b_Md_clear 25 = .ok (.iconst 0, 1) := by decide +kernel
theorem d_Md_clear_26 : decode b_Md_clear 26 = .ok (.putfield 77, 3) := by decide +kernel
theorem d_Md_clear_29 : decode b_Md_clear 29 = .ok (.return_, 1) := by decide +kernel
theorem d_Md_round_0 : decode b_Md_round 0 = .ok (.aload_n 0, 1) := by decide +kernel
theorem d_Md_round_1 : decode b_Md_round 1 = .ok (.iconst 0, 1) := by decide +kernel
theorem d_Md_round_2 : decode b_Md_round 2 = .ok (.putfield 62, 3) := by decide +kernel
theorem d_Md_round_5 : decode b_Md_round 5 = .ok (.aload_n 0, 1) := by decide +kernel
theorem d_Md_round_6 : decode b_Md_round 6 = .ok (.invokevirtual 80, 3) := by decide +kernel
theorem d_Md_round_9 : decode b_Md_round 9 = .ok (.istore_n 1, 1) := by decide +kernel
theorem d_Md_round_10 : decode b_Md_round 10 = .ok (.iload_n 1, 1) := by decide +kernel
theorem d_Md_round_11 : decode b_Md_round 11 = .ok (.sipush 240, 3) := by decide +kernel
theorem d_Md_round_14 : decode b_Md_round 14 = .ok (.if_icmp .le 8, 3) := by decide +kernel
theorem d_Md_round_17 : decode b_Md_round 17 = .ok (.bipush (-3), 2) := by decide +kernel
theorem d_Md_round_19 : decode b_Md_round 19 = .ok (.goto 4, 3) := by decide +kernel
theorem d_Md_round_22 : decode b_Md_round 22 = .ok (.iload_n 1, 1) := by decide +kernel
theorem d_Md_round_23 : decode b_Md_round 23 = .ok (.ireturn, 1) := by decide +kernel
theorem d_Md_whole_0 : decode b_Md_whole 0 = .ok (.iconst 0, 1) := by decide +kernel
theorem d_Md_whole_1 : decode b_Md_whole 1 = .ok (.istore_n 1, 1) := by decide +kernel
theorem d_Md_whole_2 : decode b_Md_whole 2 = .ok (.iconst 0, 1) := by decide +kernel
theorem d_Md_whole_3 : decode b_Md_whole 3 = .ok (.istore_n 2, 1) := by decide +kernel
theorem d_Md_whole_4 : decode b_Md_whole 4 = .ok (.iload_n 2, 1) := by decide +kernel
theorem d_Md_whole_5 : decode b_Md_whole 5 = .ok (.ifCond .ne 55, 3) := by decide +kernel
theorem d_Md_whole_8 : decode b_Md_whole 8 = .ok (.iload_n 1, 1) := by decide +kernel
theorem d_Md_whole_9 : decode b_Md_whole 9 = .ok (.sipush 241, 3) := by decide +kernel
theorem d_Md_whole_12 : decode b_Md_whole 12 = .ok (.if_icmp .ge 48, 3) := by decide +kernel
theorem d_Md_whole_15 : decode b_Md_whole 15 = .ok (.iinc 1 1, 3) := by decide +kernel
theorem d_Md_whole_18 : decode b_Md_whole 18 = .ok (.iconst 1, 1) := by decide +kernel
theorem d_Md_whole_19 : decode b_Md_whole 19 = .ok (.istore_n 2, 1) := by decide +kernel
theorem d_Md_whole_20 : decode b_Md_whole 20 = .ok (.iconst 0, 1) := by decide +kernel
theorem d_Md_whole_21 : decode b_Md_whole 21 = .ok (.istore_n 3, 1) := by decide +kernel
theorem d_Md_whole_22 : decode b_Md_whole 22 = .ok (.iload_n 3, 1) := by decide +kernel
theorem d_Md_whole_23 : decode b_Md_whole 23 = .ok (.aload_n 0, 1) := by decide +kernel
theorem d_Md_whole_24 : decode b_Md_whole 24 = .ok (.getfield 74, 3) := by decide +kernel
theorem d_Md_whole_27 : decode b_Md_whole 27 = .ok (.if_icmp .ge 30, 3) := by decide +kernel
theorem d_Md_whole_30 : decode b_Md_whole 30 = .ok (.iload_n 2, 1) := by decide +kernel
theorem d_Md_whole_31 : decode b_Md_whole 31 = .ok (.ifCond .eq 18, 3) := by decide +kernel
theorem d_Md_whole_34 : decode b_Md_whole 34 = .ok (.iload_n 1, 1) := by decide +kernel
theorem d_Md_whole_35 : decode b_Md_whole 35 = .ok (.aload_n 0, 1) := by decide +kernel
theorem d_Md_whole_36 : decode b_Md_whole 36 = .ok (.getfield 7, 3) := by decide +kernel
theorem d_Md_whole_39 : decode b_Md_whole 39 = .ok (.iload_n 3, 1) := by decide +kernel
theorem d_Md_whole_40 : decode b_Md_whole 40 = .ok (.iaload, 1) := by decide +kernel
theorem d_Md_whole_41 : decode b_Md_whole 41 = .ok (.irem, 1) := by decide +kernel
theorem d_Md_whole_42 : decode b_Md_whole 42 = .ok (.ifCond .ne 7, 3) := by decide +kernel
theorem d_Md_whole_45 : decode b_Md_whole 45 = .ok (.iconst 1, 1) := by decide +kernel
theorem d_Md_whole_46 : decode b_Md_whole 46 = .ok (.goto 4, 3) := by decide +kernel
theorem d_Md_whole_49 : decode b_Md_whole 49 = .ok (.iconst 0, 1) := by decide +kernel
theorem d_Md_whole_50 : decode b_Md_whole 50 = .ok (.istore_n 2, 1) := by decide +kernel
theorem d_Md_whole_51 : decode b_Md_whole 51 = .ok (.iinc 3 1, 3) := by decide +kernel
theorem d_Md_whole_54 : decode b_Md_whole 54 = .ok (.goto (-32), 3) := by decide +kernel
theorem d_Md_whole_57 : decode b_Md_whole 57 = .ok (.goto (-53), 3) := by decide +kernel
theorem d_Md_whole_60 : decode b_Md_whole 60 = .ok (.iload_n 2, 1) := by decide +kernel
theorem d_Md_whole_61 : decode b_Md_whole 61 = .ok (.ifCond .eq 7, 3) := by decide +kernel
theorem d_Md_whole_64 : decode b_Md_whole 64 = .ok (.iload_n 1, 1) := by decide +kernel
theorem d_Md_whole_65 : decode b_Md_whole 65 = .ok (.goto 6, 3) := by decide +kernel
theorem d_Md_whole_68 : decode b_Md_whole 68 = .ok (.sipush 241, 3) := by decide +kernel
theorem d_Md_whole_71 : decode b_Md_whole 71 = .ok (.ireturn, 1) := by decide +kernel
theorem d_Md_synthesize_0 : decode b_Md_synthesize 0 = .ok (.aload_n 0, 1) := by decide +kernel
theorem d_Md_synthesize_1 : decode b_Md_synthesize 1 = .ok (.aload_n 0, 1) := by decide +kernel
theorem d_Md_synthesize_2 : decode b_Md_synthesize 2 = .ok (.getfield 66, 3) := by decide +kernel
theorem d_Md_synthesize_5 : decode b_Md_synthesize 5 = .ok (.ifCond .eq 7, 3) := by decide +kernel
theorem d_Md_synthesize_8 : decode b_Md_synthesize 8 = .ok (.iconst 1, 1) := by decide +kernel
theorem d_Md_synthesize_9 : decode b_Md_synthesize 9 = .ok (.goto 4, 3) := by decide +kernel
theorem d_Md_synthesize_12 : decode b_Md_synthesize 12 = .ok (.iconst 0, 1) := by decide +kernel
theorem d_Md_synthesize_13 : decode b_Md_synthesize 13 = .ok (.invokevirtual 70, 3) := by decide +kernel
theorem d_Md_synthesize_16 : decode b_Md_synthesize 16 = .ok (.ifCond .eq 5, 3) := by decide +kernel
theorem d_Md_synthesize_19 : decode b_Md_synthesize 19 = .ok (.iconst 0, 1) := by decide +kernel
theorem d_Md_synthesize_20 : decode b_Md_synthesize 20 = .ok (.ireturn, 1) := by decide +kernel
theorem d_Md_synthesize_21 : decode b_Md_synthesize 21 = .ok (.aload_n 0, 1) := by decide +kernel
theorem d_Md_synthesize_22 : decode b_Md_synthesize 22 = .ok (.iconst 0, 1) := by decide +kernel
theorem d_Md_synthesize_23 : decode b_Md_synthesize 23 = .ok (.putfield 77, 3) := by decide +kernel
theorem d_Md_synthesize_26 : decode b_Md_synthesize 26 = .ok (.aload_n 0, 1) := by decide +kernel
theorem d_Md_synthesize_27 : decode b_Md_synthesize 27 = .ok (.invokevirtual 80, 3) := by decide +kernel
theorem d_Md_synthesize_30 : decode b_Md_synthesize 30 = .ok (.istore_n 1, 1) := by decide +kernel
theorem d_Md_synthesize_31 : decode b_Md_synthesize 31 = .ok (.iload_n 1, 1) := by decide +kernel
theorem d_Md_synthesize_32 : decode b_Md_synthesize 32 = .ok (.sipush 240, 3) := by decide +kernel
theorem d_Md_synthesize_35 : decode b_Md_synthesize 35 = .ok (.if_icmp .le 6, 3) := by decide +kernel
theorem d_Md_synthesize_38 : decode b_Md_synthesize 38 = .ok (.bipush (-3), 2) := by decide +kernel
theorem d_Md_synthesize_40 : decode b_Md_synthesize 40 = .ok (.ireturn, 1) := by decide +kernel
theorem d_Md_synthesize_41 : decode b_Md_synthesize 41 = .ok (.iconst 0, 1) := by decide +kernel
theorem d_Md_synthesize_42 : decode b_Md_synthesize 42 = .ok (.istore_n 2, 1) := by decide +kernel
theorem d_Md_synthesize_43 : decode b_Md_synthesize 43 = .ok (.iconst 0, 1) := by decide +kernel
theorem d_Md_synthesize_44 : decode b_Md_synthesize 44 = .ok (.istore_n 3, 1) := by decide +kernel
theorem d_Md_synthesize_45 : decode b_Md_synthesize 45 = .ok (.iload_n 3, 1) := by decide +kernel
theorem d_Md_synthesize_46 : decode b_Md_synthesize 46 = .ok (.aload_n 0, 1) := by decide +kernel
theorem d_Md_synthesize_47 : decode b_Md_synthesize 47 = .ok (.getfield 74, 3) := by decide +kernel
theorem d_Md_synthesize_50 : decode b_Md_synthesize 50 = .ok (.if_icmp .ge 27, 3) := by decide +kernel
theorem d_Md_synthesize_53 : decode b_Md_synthesize 53 = .ok (.iload_n 2, 1) := by decide +kernel
theorem d_Md_synthesize_54 : decode b_Md_synthesize 54 = .ok (.aload_n 0, 1) := by decide +kernel
theorem d_Md_synthesize_55 : decode b_Md_synthesize 55 = .ok (.getfield 13, 3) := by decide +kernel
theorem d_Md_synthesize_58 : decode b_Md_synthesize 58 = .ok (.iload_n 3, 1) := by decide +kernel
theorem d_Md_synthesize_59 : decode b_Md_synthesize 59 = .ok (.iaload, 1) := by decide +kernel
theorem d_Md_synthesize_60 : decode b_Md_synthesize 60 = .ok (.iload_n 1, 1) := by decide +kernel
theorem d_Md_synthesize_61 : decode b_Md_synthesize 61 = .ok (.aload_n 0, 1) := by decide +kernel
theorem d_Md_synthesize_62 : decode b_Md_synthesize 62 = .ok (.getfield 7, 3) := by decide +kernel
theorem d_Md_synthesize_65 : decode b_Md_synthesize 65 = .ok (.iload_n 3, 1) := by decide +kernel
theorem d_Md_synthesize_66 : decode b_Md_synthesize 66 = .ok (.iaload, 1) := by decide +kernel
theorem d_Md_synthesize_67 : decode b_Md_synthesize 67 = .ok (.idiv, 1) := by decide +kernel
theorem d_Md_synthesize_68 : decode b_Md_synthesize 68 = .ok (.imul, 1) := by decide +kernel
theorem d_Md_synthesize_69 : decode b_Md_synthesize 69 = .ok (.iadd, 1) := by decide +kernel
theorem d_Md_synthesize_70 : decode b_Md_synthesize 70 = .ok (.istore_n 2, 1) := by decide +kernel
theorem d_Md_synthesize_71 : decode b_Md_synthesize 71 = .ok (.iinc 3 1, 3) := by decide +kernel
theorem d_Md_synthesize_74 : decode b_Md_synthesize 74 = .ok (.goto (-29), 3) := by decide +kernel
theorem d_Md_synthesize_77 : decode b_Md_synthesize 77 = .ok (.iload_n 2, 1) := by decide +kernel
theorem d_Md_synthesize_78 : decode b_Md_synthesize 78 = .ok (.iload_n 1, 1) := by decide +kernel
theorem d_Md_synthesize_79 : decode b_Md_synthesize 79 = .ok (.if_icmp .gt 15, 3) := by decide +kernel
theorem d_Md_synthesize_82 : decode b_Md_synthesize 82 = .ok (.aload_n 0, 1) := by decide +kernel
theorem d_Md_synthesize_83 : decode b_Md_synthesize 83 = .ok (.aload_n 0, 1) := by decide +kernel
theorem d_Md_synthesize_84 : decode b_Md_synthesize 84 = .ok (.invokevirtual 91, 3) := by decide +kernel
theorem d_Md_synthesize_87 : decode b_Md_synthesize 87 = .ok (.iload_n 1, 1) := by decide +kernel
theorem d_Md_synthesize_88 : decode b_Md_synthesize 88 = .ok (.invokevirtual 94, 3) := by decide +kernel
theorem d_Md_synthesize_91 : decode b_Md_synthesize 91 = .ok (.ifCond .ne 6, 3) := by decide +kernel
theorem d_Md_synthesize_94 : decode b_Md_synthesize 94 = .ok (.bipush (-2), 2) := by decide +kernel
theorem d_Md_synthesize_96 : decode b_Md_synthesize 96 = .ok (.ireturn, 1) := by decide +kernel
theorem d_Md_synthesize_97 : decode b_Md_synthesize 97 = .ok (.iconst 0, 1) := by decide +kernel
theorem d_Md_synthesize_98 : decode b_Md_synthesize 98 = .ok (.istore_n 3, 1) := by decide +kernel
theorem d_Md_synthesize_99 : decode b_Md_synthesize 99 = .ok (.iload_n 3, 1) := by decide +kernel
theorem d_Md_synthesize_100 : decode b_Md_synthesize 100 = .ok (.iload_n 1, 1) := by decide +kernel
theorem d_Md_synthesize_101 : decode b_Md_synthesize 101 = .ok (.if_icmp .ge 128, 3) := by decide +kernel
theorem d_Md_synthesize_104 : decode b_Md_synthesize 104 = .ok (.iload_n 3, 1) := by decide +kernel
theorem d_Md_synthesize_105 : decode b_Md_synthesize 105 = .ok (.ifCond .le 47, 3) := by decide +kernel
theorem d_Md_synthesize_108 : decode b_Md_synthesize 108 = .ok (.aload_n 0, 1) := by decide +kernel
theorem d_Md_synthesize_109 : decode b_Md_synthesize 109 = .ok (.getfield 59, 3) := by decide +kernel
theorem d_Md_synthesize_112 : decode b_Md_synthesize 112 = .ok (.iload_n 3, 1) := by decide +kernel
theorem d_Md_synthesize_113 : decode b_Md_synthesize 113 = .ok (.iaload, 1) := by decide +kernel
theorem d_Md_synthesize_114 : decode b_Md_synthesize 114 = .ok (.aload_n 0, 1) := by decide +kernel
theorem d_Md_synthesize_115 : decode b_Md_synthesize 115 = .ok (.getfield 59, 3) := by decide +kernel
theorem d_Md_synthesize_118 : decode b_Md_synthesize 118 = .ok (.iload_n 3, 1) := by decide +kernel
theorem d_Md_synthesize_119 : decode b_Md_synthesize 119 = .ok (.iconst 1, 1) := by decide +kernel
theorem d_Md_synthesize_120 : decode b_Md_synthesize 120 = .ok (.isub, 1) := by decide +kernel
theorem d_Md_synthesize_121 : decode b_Md_synthesize 121 = .ok (.iaload, 1) := by decide +kernel
theorem d_Md_synthesize_122 : decode b_Md_synthesize 122 = .ok (.if_icmp .ne 30, 3) := by decide +kernel
theorem d_Md_synthesize_125 : decode b_Md_synthesize 125 = .ok (.aload_n 0, 1) := by decide +kernel
theorem d_Md_synthesize_126 : decode b_Md_synthesize 126 = .ok (.getfield 59, 3) := by decide +kernel
theorem d_Md_synthesize_129 : decode b_Md_synthesize 129 = .ok (.iload_n 3, 1) := by decide +kernel
theorem d_Md_synthesize_130 : decode b_Md_synthesize 130 = .ok (.iaload, 1) := by decide +kernel
theorem d_Md_synthesize_131 : decode b_Md_synthesize 131 = .ok (.ifCond .lt 92, 3) := by decide +kernel
theorem d_Md_synthesize_134 : decode b_Md_synthesize 134 = .ok (.aload_n 0, 1) := by decide +kernel
theorem d_Md_synthesize_135 : decode b_Md_synthesize 135 = .ok (.getfield 28, 3) := by decide +kernel
theorem d_Md_synthesize_138 : decode b_Md_synthesize 138 = .ok (.aload_n 0, 1) := by decide +kernel
theorem d_Md_synthesize_139 : decode b_Md_synthesize 139 = .ok (.getfield 77, 3) := by decide +kernel
theorem d_Md_synthesize_142 : decode b_Md_synthesize 142 = .ok (.iconst 1, 1) := by decide +kernel
theorem d_Md_synthesize_143 : decode b_Md_synthesize 143 = .ok (.isub, 1) := by decide +kernel
theorem d_Md_synthesize_144 : decode b_Md_synthesize 144 = .ok (.dup2, 1) := by decide +kernel
theorem d_Md_synthesize_145 : decode b_Md_synthesize 145 = .ok (.iaload, 1) := by decide +kernel
theorem d_Md_synthesize_146 : decode b_Md_synthesize 146 = .ok (.iconst 1, 1) := by decide +kernel
theorem d_Md_synthesize_147 : decode b_Md_synthesize 147 = .ok (.iadd, 1) := by decide +kernel
theorem d_Md_synthesize_148 : decode b_Md_synthesize 148 = .ok (.iastore, 1) := by decide +kernel
theorem d_Md_synthesize_149 : decode b_Md_synthesize 149 = .ok (.goto 74, 3) := by decide +kernel
theorem d_Md_synthesize_152 : decode b_Md_synthesize 152 = .ok (.aload_n 0, 1) := by decide +kernel
theorem d_Md_synthesize_153 : decode b_Md_synthesize 153 = .ok (.getfield 59, 3) := by decide +kernel
theorem d_Md_synthesize_156 : decode b_Md_synthesize 156 = .ok (.iload_n 3, 1) := by decide +kernel
theorem d_Md_synthesize_157 : decode b_Md_synthesize 157 = .ok (.iaload, 1) := by decide +kernel
theorem d_Md_synthesize_158 : decode b_Md_synthesize 158 = .ok (.ifCond .lt 65, 3) := by decide +kernel
theorem d_Md_synthesize_161 : decode b_Md_synthesize 161 = .ok (.aload_n 0, 1) := by decide +kernel
theorem d_Md_synthesize_162 : decode b_Md_synthesize 162 = .ok (.getfield 77, 3) := by decide +kernel
theorem d_Md_synthesize_165 : decode b_Md_synthesize 165 = .ok (.bipush 60, 2) := by decide +kernel
theorem d_Md_synthesize_167 : decode b_Md_synthesize 167 = .ok (.if_icmp .ne 11, 3) := by decide +kernel
theorem d_Md_synthesize_170 : decode b_Md_synthesize 170 = .ok (.aload_n 0, 1) := by decide +kernel
theorem d_Md_synthesize_171 : decode b_Md_synthesize 171 = .ok (.iconst 0, 1) := by decide +kernel
theorem d_Md_synthesize_172 : decode b_Md_synthesize 172 = .ok (.putfield 77, 3) := by decide +kernel
theorem d_Md_synthesize_175 : decode b_Md_synthesize 175 = .ok (.bipush (-3), 2) := by decide +kernel
theorem d_Md_synthesize_177 : decode b_Md_synthesize 177 = .ok (.ireturn, 1) := by decide +kernel
theorem d_Md_synthesize_178 : decode b_Md_synthesize 178 = .ok (.aload_n 0, 1) := by decide +kernel
theorem d_Md_synthesize_179 : decode b_Md_synthesize 179 = .ok (.getfield 25, 3) := by decide +kernel
theorem d_Md_synthesize_182 : decode b_Md_synthesize 182 = .ok (.aload_n 0, 1) := by decide +kernel
theorem d_Md_synthesize_183 : decode b_Md_synthesize 183 = .ok (.getfield 77, 3) := by decide +kernel
theorem d_Md_synthesize_186 : decode b_Md_synthesize 186 = .ok (.iload_n 3, 1) := by decide +kernel
theorem d_Md_synthesize_187 : decode b_Md_synthesize 187 = .ok (.iastore, 1) := by decide +kernel
theorem d_Md_synthesize_188 : decode b_Md_synthesize 188 = .ok (.aload_n 0, 1) := by decide +kernel
theorem d_Md_synthesize_189 : decode b_Md_synthesize 189 = .ok (.getfield 28, 3) := by decide +kernel
theorem d_Md_synthesize_192 : decode b_Md_synthesize 192 = .ok (.aload_n 0, 1) := by decide +kernel
theorem d_Md_synthesize_193 : decode b_Md_synthesize 193 = .ok (.getfield 77, 3) := by decide +kernel
theorem d_Md_synthesize_196 : decode b_Md_synthesize 196 = .ok (.iconst 1, 1) := by decide +kernel
theorem d_Md_synthesize_197 : decode b_Md_synthesize 197 = .ok (.iastore, 1) := by decide +kernel
theorem d_Md_synthesize_198 : decode b_Md_synthesize 198 = .ok (.aload_n 0, 1) := by decide +kernel
theorem d_Md_synthesize_199 : decode b_Md_synthesize 199 = .ok (.getfield 31, 3) := by decide +kernel
theorem d_Md_synthesize_202 : decode b_Md_synthesize 202 = .ok (.aload_n 0, 1) := by decide +kernel
theorem d_Md_synthesize_203 : decode b_Md_synthesize 203 = .ok (.getfield 77, 3) := by decide +kernel
theorem d_Md_synthesize_206 : decode b_Md_synthesize 206 = .ok (.aload_n 0, 1) := by decide +kernel
theorem d_Md_synthesize_207 : decode b_Md_synthesize 207 = .ok (.getfield 59, 3) := by decide +kernel
theorem d_Md_synthesize_210 : decode b_Md_synthesize 210 = .ok (.iload_n 3, 1) := by decide +kernel
theorem d_Md_synthesize_211 : decode b_Md_synthesize 211 = .ok (.iaload, 1) := by decide +kernel
theorem d_Md_synthesize_212 : decode b_Md_synthesize 212 = .ok (.iastore, 1) := by decide +kernel
theorem d_Md_synthesize_213 : decode b_Md_synthesize 213 = .ok (.aload_n 0, 1) := by decide +kernel
theorem d_Md_synthesize_214 : decode b_Md_synthesize 214 = .ok (.dup, 1) := by decide +kernel
theorem d_Md_synthesize_215 : decode b_Md_synthesize 215 = .ok (.getfield 77, 3) := by decide +kernel
theorem d_Md_synthesize_218 : decode b_Md_synthesize 218 = .ok (.iconst 1, 1) := by decide +kernel
theorem d_Md_synthesize_219 : decode b_Md_synthesize 219 = .ok (.iadd, 1) := by decide +kernel
theorem d_Md_synthesize_220 : decode b_Md_synthesize 220 = .ok (.putfield 77, 3) := by decide +kernel
theorem d_Md_synthesize_223 : decode b_Md_synthesize 223 = .ok (.iinc 3 1, 3) := by decide +kernel
theorem d_Md_synthesize_226 : decode b_Md_synthesize 226 = .ok (.goto (-127), 3) := by decide +kernel
theorem d_Md_synthesize_229 : decode b_Md_synthesize 229 = .ok (.aload_n 0, 1) := by decide +kernel
theorem d_Md_synthesize_230 : decode b_Md_synthesize 230 = .ok (.getfield 77, 3) := by decide +kernel
theorem d_Md_synthesize_233 : decode b_Md_synthesize 233 = .ok (.ireturn, 1) := by decide +kernel
theorem d_Md_greatestOffset_0 : decode b_Md_greatestOffset 0 = .ok (.iconst 0, 1) := by decide +kernel
theorem d_Md_greatestOffset_1 : decode b_Md_greatestOffset 1 = .ok (.istore_n 1, 1) := by decide +kernel
theorem d_Md_greatestOffset_2 : decode b_Md_greatestOffset 2 = .ok (.iconst 0, 1) := by decide +kernel
theorem d_Md_greatestOffset_3 : decode b_Md_greatestOffset 3 = .ok (.istore_n 2, 1) := by decide +kernel
theorem d_Md_greatestOffset_4 : decode b_Md_greatestOffset 4 = .ok (.iload_n 2, 1) := by decide +kernel
theorem d_Md_greatestOffset_5 : decode b_Md_greatestOffset 5 = .ok (.aload_n 0, 1) := by decide +kernel
theorem d_Md_greatestOffset_6 : decode b_Md_greatestOffset 6 = .ok (.getfield 74, 3) := by decide +kernel
theorem d_Md_greatestOffset_9 : decode b_Md_greatestOffset 9 = .ok (.if_icmp .ge 30, 3) := by decide +kernel
theorem d_Md_greatestOffset_12 : decode b_Md_greatestOffset 12 = .ok (.aload_n 0, 1) := by decide +kernel
theorem d_Md_greatestOffset_13 : decode b_Md_greatestOffset 13 = .ok (.getfield 19, 3) := by decide +kernel
theorem d_Md_greatestOffset_16 : decode b_Md_greatestOffset 16 = .ok (.iload_n 2, 1) := by decide +kernel
theorem d_Md_greatestOffset_17 : decode b_Md_greatestOffset 17 = .ok (.iaload, 1) := by decide +kernel
theorem d_Md_greatestOffset_18 : decode b_Md_greatestOffset 18 = .ok (.iload_n 1, 1) := by decide +kernel
theorem d_Md_greatestOffset_19 : decode b_Md_greatestOffset 19 = .ok (.if_icmp .le 12, 3) := by decide +kernel
theorem d_Md_greatestOffset_22 : decode b_Md_greatestOffset 22 = .ok (.aload_n 0, 1) := by decide +kernel
theorem d_Md_greatestOffset_23 : decode b_Md_greatestOffset 23 = .ok (.getfield 19, 3) := by decide +kernel
theorem d_Md_greatestOffset_26 : decode b_Md_greatestOffset 26 = .ok (.iload_n 2, 1) := by decide +kernel
theorem d_Md_greatestOffset_27 : decode b_Md_greatestOffset 27 = .ok (.iaload, 1) := by decide +kernel
theorem d_Md_greatestOffset_28 : decode b_Md_greatestOffset 28 = .ok (.goto 4, 3) := by decide +kernel
theorem d_Md_greatestOffset_31 : decode b_Md_greatestOffset 31 = .ok (.iload_n 1, 1) := by decide +kernel
theorem d_Md_greatestOffset_32 : decode b_Md_greatestOffset 32 = .ok (.istore_n 1, 1) := by decide +kernel
theorem d_Md_greatestOffset_33 : decode b_Md_greatestOffset 33 = .ok (.iinc 2 1, 3) := by decide +kernel
theorem d_Md_greatestOffset_36 : decode b_Md_greatestOffset 36 = .ok (.goto (-32), 3) := by decide +kernel
theorem d_Md_greatestOffset_39 : decode b_Md_greatestOffset 39 = .ok (.iload_n 1, 1) := by decide +kernel
theorem d_Md_greatestOffset_40 : decode b_Md_greatestOffset 40 = .ok (.ireturn, 1) := by decide +kernel
theorem d_Md_imagine_0 : decode b_Md_imagine 0 = .ok (.iconst 0, 1) := by decide +kernel
theorem d_Md_imagine_1 : decode b_Md_imagine 1 = .ok (.istore_n 3, 1) := by decide +kernel
theorem d_Md_imagine_2 : decode b_Md_imagine 2 = .ok (.iload_n 3, 1) := by decide +kernel
theorem d_Md_imagine_3 : decode b_Md_imagine 3 = .ok (.aload_n 0, 1) := by decide +kernel
theorem d_Md_imagine_4 : decode b_Md_imagine 4 = .ok (.getfield 74, 3) := by decide +kernel
theorem d_Md_imagine_7 : decode b_Md_imagine 7 = .ok (.if_icmp .ge 16, 3) := by decide +kernel
theorem d_Md_imagine_10 : decode b_Md_imagine 10 = .ok (.aload_n 0, 1) := by decide +kernel
theorem d_Md_imagine_11 : decode b_Md_imagine 11 = .ok (.getfield 40, 3) := by decide +kernel
theorem d_Md_imagine_14 : decode b_Md_imagine 14 = .ok (.iload_n 3, 1) := by decide +kernel
theorem d_Md_imagine_15 : decode b_Md_imagine 15 = .ok (.iconst 0, 1) := by decide +kernel
theorem d_Md_imagine_16 : decode b_Md_imagine 16 = .ok (.bastore, 1) := by decide +kernel
theorem d_Md_imagine_17 : decode b_Md_imagine 17 = .ok (.iinc 3 1, 3) := by decide +kernel
theorem d_Md_imagine_20 : decode b_Md_imagine 20 = .ok (.goto (-18), 3) := by decide +kernel
theorem d_Md_imagine_23 : decode b_Md_imagine 23 = .ok (.iconst 0, 1) := by decide +kernel
theorem d_Md_imagine_24 : decode b_Md_imagine 24 = .ok (.istore_n 3, 1) := by decide +kernel
theorem d_Md_imagine_25 : decode b_Md_imagine 25 = .ok (.iload_n 3, 1) := by decide +kernel
theorem d_Md_imagine_26 : decode b_Md_imagine 26 = .ok (.iload_n 1, 1) := by decide +kernel
theorem d_Md_imagine_27 : decode b_Md_imagine 27 = .ok (.iconst 2, 1) := by decide +kernel
theorem d_Md_imagine_28 : decode b_Md_imagine 28 = .ok (.iload_n 2, 1) := by decide +kernel
theorem d_Md_imagine_29 : decode b_Md_imagine 29 = .ok (.imul, 1) := by decide +kernel
theorem d_Md_imagine_30 : decode b_Md_imagine 30 = .ok (.iadd, 1) := by decide +kernel
theorem d_Md_imagine_31 : decode b_Md_imagine 31 = .ok (.if_icmp .gt 157, 3) := by decide +kernel
theorem d_Md_imagine_34 : decode b_Md_imagine 34 = .ok (.iconst 0, 1) := by decide +kernel
theorem d_Md_imagine_35 : decode b_Md_imagine 35 = .ok (.istore 4, 2) := by decide +kernel
theorem d_Md_imagine_37 : decode b_Md_imagine 37 = .ok (.iload 4, 2) := by decide +kernel
theorem d_Md_imagine_39 : decode b_Md_imagine 39 = .ok (.aload_n 0, 1) := by decide +kernel
theorem d_Md_imagine_40 : decode b_Md_imagine 40 = .ok (.getfield 74, 3) := by decide +kernel
theorem d_Md_imagine_43 : decode b_Md_imagine 43 = .ok (.if_icmp .ge 91, 3) := by decide +kernel
theorem d_Md_imagine_46 : decode b_Md_imagine 46 = .ok (.aload_n 0, 1) := by decide +kernel
theorem d_Md_imagine_47 : decode b_Md_imagine 47 = .ok (.getfield 40, 3) := by decide +kernel
theorem d_Md_imagine_50 : decode b_Md_imagine 50 = .ok (.iload 4, 2) := by decide +kernel
theorem d_Md_imagine_52 : decode b_Md_imagine 52 = .ok (.baload, 1) := by decide +kernel
theorem d_Md_imagine_53 : decode b_Md_imagine 53 = .ok (.ifCond .eq 41, 3) := by decide +kernel
theorem d_Md_imagine_56 : decode b_Md_imagine 56 = .ok (.aload_n 0, 1) := by decide +kernel
theorem d_Md_imagine_57 : decode b_Md_imagine 57 = .ok (.getfield 44, 3) := by decide +kernel
theorem d_Md_imagine_60 : decode b_Md_imagine 60 = .ok (.iload 4, 2) := by decide +kernel
theorem d_Md_imagine_62 : decode b_Md_imagine 62 = .ok (.iaload, 1) := by decide +kernel
theorem d_Md_imagine_63 : decode b_Md_imagine 63 = .ok (.aload_n 0, 1) := by decide +kernel
theorem d_Md_imagine_64 : decode b_Md_imagine 64 = .ok (.getfield 16, 3) := by decide +kernel
theorem d_Md_imagine_67 : decode b_Md_imagine 67 = .ok (.iload 4, 2) := by decide +kernel
theorem d_Md_imagine_69 : decode b_Md_imagine 69 = .ok (.iaload, 1) := by decide +kernel
theorem d_Md_imagine_70 : decode b_Md_imagine 70 = .ok (.iadd, 1) := by decide +kernel
theorem d_Md_imagine_71 : decode b_Md_imagine 71 = .ok (.iload_n 3, 1) := by decide +kernel
theorem d_Md_imagine_72 : decode b_Md_imagine 72 = .ok (.if_icmp .gt 22, 3) := by decide +kernel
theorem d_Md_imagine_75 : decode b_Md_imagine 75 = .ok (.aload_n 0, 1) := by decide +kernel
theorem d_Md_imagine_76 : decode b_Md_imagine 76 = .ok (.getfield 47, 3) := by decide +kernel
theorem d_Md_imagine_79 : decode b_Md_imagine 79 = .ok (.iload 4, 2) := by decide +kernel
theorem d_Md_imagine_81 : decode b_Md_imagine 81 = .ok (.iaload, 1) := by decide +kernel
theorem d_Md_imagine_82 : decode b_Md_imagine 82 = .ok (.aload_n 0, 1) := by decide +kernel
theorem d_Md_imagine_83 : decode b_Md_imagine 83 = .ok (.getfield 13, 3) := by decide +kernel
theorem d_Md_imagine_86 : decode b_Md_imagine 86 = .ok (.iload 4, 2) := by decide +kernel
theorem d_Md_imagine_88 : decode b_Md_imagine 88 = .ok (.iaload, 1) := by decide +kernel
theorem d_Md_imagine_89 : decode b_Md_imagine 89 = .ok (.if_icmp .ge 5, 3) := by decide +kernel
theorem d_Md_imagine_92 : decode b_Md_imagine 92 = .ok (.iconst 0, 1) := by decide +kernel
theorem d_Md_imagine_93 : decode b_Md_imagine 93 = .ok (.ireturn, 1) := by decide +kernel
theorem d_Md_imagine_94 : decode b_Md_imagine 94 = .ok (.aload_n 0, 1) := by decide +kernel
theorem d_Md_imagine_95 : decode b_Md_imagine 95 = .ok (.iload 4, 2) := by decide +kernel
theorem d_Md_imagine_97 : decode b_Md_imagine 97 = .ok (.iload_n 3, 1) := by decide +kernel
theorem d_Md_imagine_98 : decode b_Md_imagine 98 = .ok (.invokevirtual 84, 3) := by decide +kernel
theorem d_Md_imagine_101 : decode b_Md_imagine 101 = .ok (.ifCond .eq 27, 3) := by decide +kernel
theorem d_Md_imagine_104 : decode b_Md_imagine 104 = .ok (.aload_n 0, 1) := by decide +kernel
theorem d_Md_imagine_105 : decode b_Md_imagine 105 = .ok (.getfield 40, 3) := by decide +kernel
theorem d_Md_imagine_108 : decode b_Md_imagine 108 = .ok (.iload 4, 2) := by decide +kernel
theorem d_Md_imagine_110 : decode b_Md_imagine 110 = .ok (.iconst 1, 1) := by decide +kernel
theorem d_Md_imagine_111 : decode b_Md_imagine 111 = .ok (.bastore, 1) := by decide +kernel
theorem d_Md_imagine_112 : decode b_Md_imagine 112 = .ok (.aload_n 0, 1) := by decide +kernel
theorem d_Md_imagine_113 : decode b_Md_imagine 113 = .ok (.getfield 44, 3) := by decide +kernel
theorem d_Md_imagine_116 : decode b_Md_imagine 116 = .ok (.iload 4, 2) := by decide +kernel
theorem d_Md_imagine_118 : decode b_Md_imagine 118 = .ok (.iload_n 3, 1) := by decide +kernel
theorem d_Md_imagine_119 : decode b_Md_imagine 119 = .ok (.iastore, 1) := by decide +kernel
theorem d_Md_imagine_120 : decode b_Md_imagine 120 = .ok (.aload_n 0, 1) := by decide +kernel
theorem d_Md_imagine_121 : decode b_Md_imagine 121 = .ok (.getfield 47, 3) := by decide +kernel
theorem d_Md_imagine_124 : decode b_Md_imagine 124 = .ok (.iload 4, 2) := by decide +kernel
theorem d_Md_imagine_126 : decode b_Md_imagine 126 = .ok (.iconst 0, 1) := by decide +kernel
theorem d_Md_imagine_127 : decode b_Md_imagine 127 = .ok (.iastore, 1) := by decide +kernel
theorem d_Md_imagine_128 : decode b_Md_imagine 128 = .ok (.iinc 4 1, 3) := by decide +kernel
theorem d_Md_imagine_131 : decode b_Md_imagine 131 = .ok (.goto (-94), 3) := by decide +kernel
theorem d_Md_imagine_134 : decode b_Md_imagine 134 = .ok (.aload_n 0, 1) := by decide +kernel
theorem d_Md_imagine_135 : decode b_Md_imagine 135 = .ok (.invokevirtual 88, 3) := by decide +kernel
theorem d_Md_imagine_138 : decode b_Md_imagine 138 = .ok (.istore 4, 2) := by decide +kernel
theorem d_Md_imagine_140 : decode b_Md_imagine 140 = .ok (.iload 4, 2) := by decide +kernel
theorem d_Md_imagine_142 : decode b_Md_imagine 142 = .ok (.ifCond .lt 14, 3) := by decide +kernel
theorem d_Md_imagine_145 : decode b_Md_imagine 145 = .ok (.aload_n 0, 1) := by decide +kernel
theorem d_Md_imagine_146 : decode b_Md_imagine 146 = .ok (.getfield 47, 3) := by decide +kernel
theorem d_Md_imagine_149 : decode b_Md_imagine 149 = .ok (.iload 4, 2) := by decide +kernel
theorem d_Md_imagine_151 : decode b_Md_imagine 151 = .ok (.dup2, 1) := by decide +kernel
theorem d_Md_imagine_152 : decode b_Md_imagine 152 = .ok (.iaload, 1) := by decide +kernel
theorem d_Md_imagine_153 : decode b_Md_imagine 153 = .ok (.iconst 1, 1) := by decide +kernel
theorem d_Md_imagine_154 : decode b_Md_imagine 154 = .ok (.iadd, 1) := by decide +kernel
theorem d_Md_imagine_155 : decode b_Md_imagine 155 = .ok (.iastore, 1) := by decide +kernel
theorem d_Md_imagine_156 : decode b_Md_imagine 156 = .ok (.iload_n 3, 1) := by decide +kernel
theorem d_Md_imagine_157 : decode b_Md_imagine 157 = .ok (.iload_n 1, 1) := by decide +kernel
theorem d_Md_imagine_158 : decode b_Md_imagine 158 = .ok (.iload_n 2, 1) := by decide +kernel
theorem d_Md_imagine_159 : decode b_Md_imagine 159 = .ok (.iadd, 1) := by decide +kernel
theorem d_Md_imagine_160 : decode b_Md_imagine 160 = .ok (.if_icmp .lt 22, 3) := by decide +kernel
theorem d_Md_imagine_163 : decode b_Md_imagine 163 = .ok (.iload_n 3, 1) := by decide +kernel
theorem d_Md_imagine_164 : decode b_Md_imagine 164 = .ok (.iload_n 1, 1) := by decide +kernel
theorem d_Md_imagine_165 : decode b_Md_imagine 165 = .ok (.iconst 2, 1) := by decide +kernel
theorem d_Md_imagine_166 : decode b_Md_imagine 166 = .ok (.iload_n 2, 1) := by decide +kernel
theorem d_Md_imagine_167 : decode b_Md_imagine 167 = .ok (.imul, 1) := by decide +kernel
theorem d_Md_imagine_168 : decode b_Md_imagine 168 = .ok (.iadd, 1) := by decide +kernel
theorem d_Md_imagine_169 : decode b_Md_imagine 169 = .ok (.if_icmp .ge 13, 3) := by decide +kernel
theorem d_Md_imagine_172 : decode b_Md_imagine 172 = .ok (.aload_n 0, 1) := by decide +kernel
theorem d_Md_imagine_173 : decode b_Md_imagine 173 = .ok (.getfield 59, 3) := by decide +kernel
theorem d_Md_imagine_176 : decode b_Md_imagine 176 = .ok (.iload_n 3, 1) := by decide +kernel
theorem d_Md_imagine_177 : decode b_Md_imagine 177 = .ok (.iload_n 2, 1) := by decide +kernel
theorem d_Md_imagine_178 : decode b_Md_imagine 178 = .ok (.irem, 1) := by decide +kernel
theorem d_Md_imagine_179 : decode b_Md_imagine 179 = .ok (.iload 4, 2) := by decide +kernel
theorem d_Md_imagine_181 : decode b_Md_imagine 181 = .ok (.iastore, 1) := by decide +kernel
theorem d_Md_imagine_182 : decode b_Md_imagine 182 = .ok (.iinc 3 1, 3) := by decide +kernel
theorem d_Md_imagine_185 : decode b_Md_imagine 185 = .ok (.goto (-160), 3) := by decide +kernel
theorem d_Md_imagine_188 : decode b_Md_imagine 188 = .ok (.iconst 1, 1) := by decide +kernel
theorem d_Md_imagine_189 : decode b_Md_imagine 189 = .ok (.ireturn, 1) := by decide +kernel
theorem d_Md_isReleased_0 : decode b_Md_isReleased 0 = .ok (.iload_n 2, 1) := by decide +kernel
theorem d_Md_isReleased_1 : decode b_Md_isReleased 1 = .ok (.aload_n 0, 1) := by decide +kernel
theorem d_Md_isReleased_2 : decode b_Md_isReleased 2 = .ok (.getfield 19, 3) := by decide +kernel
theorem d_Md_isReleased_5 : decode b_Md_isReleased 5 = .ok (.iload_n 1, 1) := by decide +kernel
theorem d_Md_isReleased_6 : decode b_Md_isReleased 6 = .ok (.iaload, 1) := by decide +kernel
theorem d_Md_isReleased_7 : decode b_Md_isReleased 7 = .ok (.if_icmp .lt 25, 3) := by decide +kernel
theorem d_Md_isReleased_10 : decode b_Md_isReleased 10 = .ok (.iload_n 2, 1) := by decide +kernel
theorem d_Md_isReleased_11 : decode b_Md_isReleased 11 = .ok (.aload_n 0, 1) := by decide +kernel
theorem d_Md_isReleased_12 : decode b_Md_isReleased 12 = .ok (.getfield 19, 3) := by decide +kernel
theorem d_Md_isReleased_15 : decode b_Md_isReleased 15 = .ok (.iload_n 1, 1) := by decide +kernel
theorem d_Md_isReleased_16 : decode b_Md_isReleased 16 = .ok (.iaload, 1) := by decide +kernel
theorem d_Md_isReleased_17 : decode b_Md_isReleased 17 = .ok (.isub, 1) := by decide +kernel
theorem d_Md_isReleased_18 : decode b_Md_isReleased 18 = .ok (.aload_n 0, 1) := by decide +kernel
theorem d_Md_isReleased_19 : decode b_Md_isReleased 19 = .ok (.getfield 7, 3) := by decide +kernel
theorem d_Md_isReleased_22 : decode b_Md_isReleased 22 = .ok (.iload_n 1, 1) := by decide +kernel
theorem d_Md_isReleased_23 : decode b_Md_isReleased 23 = .ok (.iaload, 1) := by decide +kernel
theorem d_Md_isReleased_24 : decode b_Md_isReleased 24 = .ok (.irem, 1) := by decide +kernel
theorem d_Md_isReleased_25 : decode b_Md_isReleased 25 = .ok (.ifCond .ne 7, 3) := by decide +kernel
theorem d_Md_isReleased_28 : decode b_Md_isReleased 28 = .ok (.iconst 1, 1) := by decide +kernel
theorem d_Md_isReleased_29 : decode b_Md_isReleased 29 = .ok (.goto 4, 3) := by decide +kernel
theorem d_Md_isReleased_32 : decode b_Md_isReleased 32 = .ok (.iconst 0, 1) := by decide +kernel
theorem d_Md_isReleased_33 : decode b_Md_isReleased 33 = .ok (.ireturn, 1) := by decide +kernel
theorem d_Md_chosen_0 : decode b_Md_chosen 0 = .ok (.iconst (-1), 1) := by decide +kernel
theorem d_Md_chosen_1 : decode b_Md_chosen 1 = .ok (.istore_n 1, 1) := by decide +kernel
theorem d_Md_chosen_2 : decode b_Md_chosen 2 = .ok (.iconst 0, 1) := by decide +kernel
theorem d_Md_chosen_3 : decode b_Md_chosen 3 = .ok (.istore_n 2, 1) := by decide +kernel
theorem d_Md_chosen_4 : decode b_Md_chosen 4 = .ok (.iload_n 2, 1) := by decide +kernel
theorem d_Md_chosen_5 : decode b_Md_chosen 5 = .ok (.aload_n 0, 1) := by decide +kernel
theorem d_Md_chosen_6 : decode b_Md_chosen 6 = .ok (.getfield 74, 3) := by decide +kernel
theorem d_Md_chosen_9 : decode b_Md_chosen 9 = .ok (.if_icmp .ge 82, 3) := by decide +kernel
theorem d_Md_chosen_12 : decode b_Md_chosen 12 = .ok (.aload_n 0, 1) := by decide +kernel
theorem d_Md_chosen_13 : decode b_Md_chosen 13 = .ok (.getfield 40, 3) := by decide +kernel
theorem d_Md_chosen_16 : decode b_Md_chosen 16 = .ok (.iload_n 2, 1) := by decide +kernel
theorem d_Md_chosen_17 : decode b_Md_chosen 17 = .ok (.baload, 1) := by decide +kernel
theorem d_Md_chosen_18 : decode b_Md_chosen 18 = .ok (.ifCond .eq 22, 3) := by decide +kernel
theorem d_Md_chosen_21 : decode b_Md_chosen 21 = .ok (.aload_n 0, 1) := by decide +kernel
theorem d_Md_chosen_22 : decode b_Md_chosen 22 = .ok (.getfield 47, 3) := by decide +kernel
theorem d_Md_chosen_25 : decode b_Md_chosen 25 = .ok (.iload_n 2, 1) := by decide +kernel
theorem d_Md_chosen_26 : decode b_Md_chosen 26 = .ok (.iaload, 1) := by decide +kernel
theorem d_Md_chosen_27 : decode b_Md_chosen 27 = .ok (.aload_n 0, 1) := by decide +kernel
theorem d_Md_chosen_28 : decode b_Md_chosen 28 = .ok (.getfield 13, 3) := by decide +kernel
theorem d_Md_chosen_31 : decode b_Md_chosen 31 = .ok (.iload_n 2, 1) := by decide +kernel
theorem d_Md_chosen_32 : decode b_Md_chosen 32 = .ok (.iaload, 1) := by decide +kernel
theorem d_Md_chosen_33 : decode b_Md_chosen 33 = .ok (.if_icmp .ge 7, 3) := by decide +kernel
theorem d_Md_chosen_36 : decode b_Md_chosen 36 = .ok (.iconst 1, 1) := by decide +kernel
theorem d_Md_chosen_37 : decode b_Md_chosen 37 = .ok (.goto 4, 3) := by decide +kernel
theorem d_Md_chosen_40 : decode b_Md_chosen 40 = .ok (.iconst 0, 1) := by decide +kernel
theorem d_Md_chosen_41 : decode b_Md_chosen 41 = .ok (.istore_n 3, 1) := by decide +kernel
theorem d_Md_chosen_42 : decode b_Md_chosen 42 = .ok (.iload_n 3, 1) := by decide +kernel
theorem d_Md_chosen_43 : decode b_Md_chosen 43 = .ok (.ifCond .eq 40, 3) := by decide +kernel
theorem d_Md_chosen_46 : decode b_Md_chosen 46 = .ok (.iload_n 1, 1) := by decide +kernel
theorem d_Md_chosen_47 : decode b_Md_chosen 47 = .ok (.ifCond .lt 32, 3) := by decide +kernel
theorem d_Md_chosen_50 : decode b_Md_chosen 50 = .ok (.aload_n 0, 1) := by decide +kernel
theorem d_Md_chosen_51 : decode b_Md_chosen 51 = .ok (.getfield 44, 3) := by decide +kernel
theorem d_Md_chosen_54 : decode b_Md_chosen 54 = .ok (.iload_n 2, 1) := by decide +kernel
theorem d_Md_chosen_55 : decode b_Md_chosen 55 = .ok (.iaload, 1) := by decide +kernel
theorem d_Md_chosen_56 : decode b_Md_chosen 56 = .ok (.aload_n 0, 1) := by decide +kernel
theorem d_Md_chosen_57 : decode b_Md_chosen 57 = .ok (.getfield 16, 3) := by decide +kernel
theorem d_Md_chosen_60 : decode b_Md_chosen 60 = .ok (.iload_n 2, 1) := by decide +kernel
theorem d_Md_chosen_61 : decode b_Md_chosen 61 = .ok (.iaload, 1) := by decide +kernel
theorem d_Md_chosen_62 : decode b_Md_chosen 62 = .ok (.iadd, 1) := by decide +kernel
theorem d_Md_chosen_63 : decode b_Md_chosen 63 = .ok (.aload_n 0, 1) := by decide +kernel
theorem d_Md_chosen_64 : decode b_Md_chosen 64 = .ok (.getfield 44, 3) := by decide +kernel
theorem d_Md_chosen_67 : decode b_Md_chosen 67 = .ok (.iload_n 1, 1) := by decide +kernel
theorem d_Md_chosen_68 : decode b_Md_chosen 68 = .ok (.iaload, 1) := by decide +kernel
theorem d_Md_chosen_69 : decode b_Md_chosen 69 = .ok (.aload_n 0, 1) := by decide +kernel
theorem d_Md_chosen_70 : decode b_Md_chosen 70 = .ok (.getfield 16, 3) := by decide +kernel
theorem d_Md_chosen_73 : decode b_Md_chosen 73 = .ok (.iload_n 1, 1) := by decide +kernel
theorem d_Md_chosen_74 : decode b_Md_chosen 74 = .ok (.iaload, 1) := by decide +kernel
theorem d_Md_chosen_75 : decode b_Md_chosen 75 = .ok (.iadd, 1) := by decide +kernel
theorem d_Md_chosen_76 : decode b_Md_chosen 76 = .ok (.if_icmp .ge 7, 3) := by decide +kernel
theorem d_Md_chosen_79 : decode b_Md_chosen 79 = .ok (.iload_n 2, 1) := by decide +kernel
theorem d_Md_chosen_80 : decode b_Md_chosen 80 = .ok (.goto 4, 3) := by decide +kernel
theorem d_Md_chosen_83 : decode b_Md_chosen 83 = .ok (.iload_n 1, 1) := by decide +kernel
theorem d_Md_chosen_84 : decode b_Md_chosen 84 = .ok (.istore_n 1, 1) := by decide +kernel
theorem d_Md_chosen_85 : decode b_Md_chosen 85 = .ok (.iinc 2 1, 3) := by decide +kernel
theorem d_Md_chosen_88 : decode b_Md_chosen 88 = .ok (.goto (-84), 3) := by decide +kernel
theorem d_Md_chosen_91 : decode b_Md_chosen 91 = .ok (.iload_n 1, 1) := by decide +kernel
theorem d_Md_chosen_92 : decode b_Md_chosen 92 = .ok (.ireturn, 1) := by decide +kernel
theorem d_Md_slot_0 : decode b_Md_slot 0 = .ok (.iload_n 1, 1) := by decide +kernel
theorem d_Md_slot_1 : decode b_Md_slot 1 = .ok (.ifCond .lt 35, 3) := by decide +kernel
theorem d_Md_slot_4 : decode b_Md_slot 4 = .ok (.iload_n 1, 1) := by decide +kernel
theorem d_Md_slot_5 : decode b_Md_slot 5 = .ok (.aload_n 0, 1) := by decide +kernel
theorem d_Md_slot_6 : decode b_Md_slot 6 = .ok (.getfield 77, 3) := by decide +kernel
theorem d_Md_slot_9 : decode b_Md_slot 9 = .ok (.if_icmp .gt 27, 3) := by decide +kernel
theorem d_Md_slot_12 : decode b_Md_slot 12 = .ok (.iload_n 1, 1) := by decide +kernel
theorem d_Md_slot_13 : decode b_Md_slot 13 = .ok (.bipush 60, 2) := by decide +kernel
theorem d_Md_slot_15 : decode b_Md_slot 15 = .ok (.if_icmp .ge 21, 3) := by decide +kernel
theorem d_Md_slot_18 : decode b_Md_slot 18 = .ok (.iload 4, 2) := by decide +kernel
theorem d_Md_slot_20 : decode b_Md_slot 20 = .ok (.ifCond .lt 16, 3) := by decide +kernel
theorem d_Md_slot_23 : decode b_Md_slot 23 = .ok (.iload 4, 2) := by decide +kernel
theorem d_Md_slot_25 : decode b_Md_slot 25 = .ok (.aload_n 0, 1) := by decide +kernel
theorem d_Md_slot_26 : decode b_Md_slot 26 = .ok (.getfield 74, 3) := by decide +kernel
theorem d_Md_slot_29 : decode b_Md_slot 29 = .ok (.if_icmp .ge 7, 3) := by decide +kernel
theorem d_Md_slot_32 : decode b_Md_slot 32 = .ok (.iconst 1, 1) := by decide +kernel
theorem d_Md_slot_33 : decode b_Md_slot 33 = .ok (.goto 4, 3) := by decide +kernel
theorem d_Md_slot_36 : decode b_Md_slot 36 = .ok (.iconst 0, 1) := by decide +kernel
theorem d_Md_slot_37 : decode b_Md_slot 37 = .ok (.istore 5, 2) := by decide +kernel
theorem d_Md_slot_39 : decode b_Md_slot 39 = .ok (.iload_n 2, 1) := by decide +kernel
theorem d_Md_slot_40 : decode b_Md_slot 40 = .ok (.ifCond .lt 26, 3) := by decide +kernel
theorem d_Md_slot_43 : decode b_Md_slot 43 = .ok (.iload_n 2, 1) := by decide +kernel
theorem d_Md_slot_44 : decode b_Md_slot 44 = .ok (.sipush 239, 3) := by decide +kernel
theorem d_Md_slot_47 : decode b_Md_slot 47 = .ok (.if_icmp .gt 19, 3) := by decide +kernel
theorem d_Md_slot_50 : decode b_Md_slot 50 = .ok (.iload_n 3, 1) := by decide +kernel
theorem d_Md_slot_51 : decode b_Md_slot 51 = .ok (.iconst 1, 1) := by decide +kernel
theorem d_Md_slot_52 : decode b_Md_slot 52 = .ok (.if_icmp .lt 14, 3) := by decide +kernel
theorem d_Md_slot_55 : decode b_Md_slot 55 = .ok (.iload_n 3, 1) := by decide +kernel
theorem d_Md_slot_56 : decode b_Md_slot 56 = .ok (.sipush 240, 3) := by decide +kernel
theorem d_Md_slot_59 : decode b_Md_slot 59 = .ok (.if_icmp .gt 7, 3) := by decide +kernel
theorem d_Md_slot_62 : decode b_Md_slot 62 = .ok (.iconst 1, 1) := by decide +kernel
theorem d_Md_slot_63 : decode b_Md_slot 63 = .ok (.goto 4, 3) := by decide +kernel
theorem d_Md_slot_66 : decode b_Md_slot 66 = .ok (.iconst 0, 1) := by decide +kernel
theorem d_Md_slot_67 : decode b_Md_slot 67 = .ok (.istore 6, 2) := by decide +kernel
theorem d_Md_slot_69 : decode b_Md_slot 69 = .ok (.aload_n 0, 1) := by decide +kernel
theorem d_Md_slot_70 : decode b_Md_slot 70 = .ok (.aload_n 0, 1) := by decide +kernel
theorem d_Md_slot_71 : decode b_Md_slot 71 = .ok (.getfield 66, 3) := by decide +kernel
theorem d_Md_slot_74 : decode b_Md_slot 74 = .ok (.ifCond .eq 7, 3) := by decide +kernel
theorem d_Md_slot_77 : decode b_Md_slot 77 = .ok (.iconst 1, 1) := by decide +kernel
theorem d_Md_slot_78 : decode b_Md_slot 78 = .ok (.goto 22, 3) := by decide +kernel
theorem d_Md_slot_81 : decode b_Md_slot 81 = .ok (.iload 5, 2) := by decide +kernel
theorem d_Md_slot_83 : decode b_Md_slot 83 = .ok (.ifCond .ne 7, 3) := by decide +kernel
theorem d_Md_slot_86 : decode b_Md_slot 86 = .ok (.iconst 2, 1) := by decide +kernel
theorem d_Md_slot_87 : decode b_Md_slot 87 = .ok (.goto 13, 3) := by decide +kernel
theorem d_Md_slot_90 : decode b_Md_slot 90 = .ok (.iload 6, 2) := by decide +kernel
theorem d_Md_slot_92 : decode b_Md_slot 92 = .ok (.ifCond .ne 7, 3) := by decide +kernel
theorem d_Md_slot_95 : decode b_Md_slot 95 = .ok (.iconst 3, 1) := by decide +kernel
theorem d_Md_slot_96 : decode b_Md_slot 96 = .ok (.goto 4, 3) := by decide +kernel
theorem d_Md_slot_99 : decode b_Md_slot 99 = .ok (.iconst 0, 1) := by decide +kernel
theorem d_Md_slot_100 : decode b_Md_slot 100 = .ok (.invokevirtual 70, 3) := by decide +kernel
theorem d_Md_slot_103 : decode b_Md_slot 103 = .ok (.ifCond .eq 4, 3) := by decide +kernel
theorem d_Md_slot_106 : decode b_Md_slot 106 = .ok (.return_, 1) := by decide +kernel
theorem d_Md_slot_107 : decode b_Md_slot 107 = .ok (.aload_n 0, 1) := by decide +kernel
theorem d_Md_slot_108 : decode b_Md_slot 108 = .ok (.getfield 25, 3) := by decide +kernel
theorem d_Md_slot_111 : decode b_Md_slot 111 = .ok (.iload_n 1, 1) := by decide +kernel
theorem d_Md_slot_112 : decode b_Md_slot 112 = .ok (.iload_n 2, 1) := by decide +kernel
theorem d_Md_slot_113 : decode b_Md_slot 113 = .ok (.iastore, 1) := by decide +kernel
theorem d_Md_slot_114 : decode b_Md_slot 114 = .ok (.aload_n 0, 1) := by decide +kernel
theorem d_Md_slot_115 : decode b_Md_slot 115 = .ok (.getfield 28, 3) := by decide +kernel
theorem d_Md_slot_118 : decode b_Md_slot 118 = .ok (.iload_n 1, 1) := by decide +kernel
theorem d_Md_slot_119 : decode b_Md_slot 119 = .ok (.iload_n 3, 1) := by decide +kernel
theorem d_Md_slot_120 : decode b_Md_slot 120 = .ok (.iastore, 1) := by decide +kernel
theorem d_Md_slot_121 : decode b_Md_slot 121 = .ok (.aload_n 0, 1) := by decide +kernel
theorem d_Md_slot_122 : decode b_Md_slot 122 = .ok (.getfield 31, 3) := by decide +kernel
theorem d_Md_slot_125 : decode b_Md_slot 125 = .ok (.iload_n 1, 1) := by decide +kernel
theorem d_Md_slot_126 : decode b_Md_slot 126 = .ok (.iload 4, 2) := by decide +kernel
theorem d_Md_slot_128 : decode b_Md_slot 128 = .ok (.iastore, 1) := by decide +kernel
theorem d_Md_slot_129 : decode b_Md_slot 129 = .ok (.aload_n 0, 1) := by decide +kernel
theorem d_Md_slot_130 : decode b_Md_slot 130 = .ok (.iload_n 1, 1) := by decide +kernel
theorem d_Md_slot_131 : decode b_Md_slot 131 = .ok (.aload_n 0, 1) := by decide +kernel
theorem d_Md_slot_132 : decode b_Md_slot 132 = .ok (.getfield 77, 3) := by decide +kernel
theorem d_Md_slot_135 : decode b_Md_slot 135 = .ok (.if_icmp .ne 12, 3) := by decide +kernel
theorem d_Md_slot_138 : decode b_Md_slot 138 = .ok (.aload_n 0, 1) := by decide +kernel
theorem d_Md_slot_139 : decode b_Md_slot 139 = .ok (.getfield 77, 3) := by decide +kernel
theorem d_Md_slot_142 : decode b_Md_slot 142 = .ok (.iconst 1, 1) := by decide +kernel
theorem d_Md_slot_143 : decode b_Md_slot 143 = .ok (.iadd, 1) := by decide +kernel
theorem d_Md_slot_144 : decode b_Md_slot 144 = .ok (.goto 7, 3) := by decide +kernel
theorem d_Md_slot_147 : decode b_Md_slot 147 = .ok (.aload_n 0, 1) := by decide +kernel
theorem d_Md_slot_148 : decode b_Md_slot 148 = .ok (.getfield 77, 3) := by decide +kernel
theorem d_Md_slot_151 : decode b_Md_slot 151 = .ok (.putfield 77, 3) := by decide +kernel
theorem d_Md_slot_154 : decode b_Md_slot 154 = .ok (.return_, 1) := by decide +kernel
theorem d_Md_drop_0 : decode b_Md_drop 0 = .ok (.aload_n 0, 1) := by decide +kernel
theorem d_Md_drop_1 : decode b_Md_drop 1 = .ok (.aload_n 0, 1) := by decide +kernel
theorem d_Md_drop_2 : decode b_Md_drop 2 = .ok (.getfield 66, 3) := by decide +kernel
theorem d_Md_drop_5 : decode b_Md_drop 5 = .ok (.ifCond .ne 10, 3) := by decide +kernel
theorem d_Md_drop_8 : decode b_Md_drop 8 = .ok (.aload_n 0, 1) := by decide +kernel
theorem d_Md_drop_9 : decode b_Md_drop 9 = .ok (.getfield 77, 3) := by decide +kernel
theorem d_Md_drop_12 : decode b_Md_drop 12 = .ok (.ifCond .ne 7, 3) := by decide +kernel
theorem d_Md_drop_15 : decode b_Md_drop 15 = .ok (.iconst 1, 1) := by decide +kernel
theorem d_Md_drop_16 : decode b_Md_drop 16 = .ok (.goto 4, 3) := by decide +kernel
theorem d_Md_drop_19 : decode b_Md_drop 19 = .ok (.iconst 0, 1) := by decide +kernel
theorem d_Md_drop_20 : decode b_Md_drop 20 = .ok (.invokevirtual 70, 3) := by decide +kernel
theorem d_Md_drop_23 : decode b_Md_drop 23 = .ok (.ifCond .ne 13, 3) := by decide +kernel
theorem d_Md_drop_26 : decode b_Md_drop 26 = .ok (.aload_n 0, 1) := by decide +kernel
theorem d_Md_drop_27 : decode b_Md_drop 27 = .ok (.dup, 1) := by decide +kernel
theorem d_Md_drop_28 : decode b_Md_drop 28 = .ok (.getfield 77, 3) := by decide +kernel
theorem d_Md_drop_31 : decode b_Md_drop 31 = .ok (.iconst 1, 1) := by decide +kernel
theorem d_Md_drop_32 : decode b_Md_drop 32 = .ok (.isub, 1) := by decide +kernel
theorem d_Md_drop_33 : decode b_Md_drop 33 = .ok (.putfield 77, 3) := by decide +kernel
theorem d_Md_drop_36 : decode b_Md_drop 36 = .ok (.return_, 1) := by decide +kernel
theorem d_Md_slots_0 : decode b_Md_slots 0 = .ok (.aload_n 0, 1) := by decide +kernel
theorem d_Md_slots_1 : decode b_Md_slots 1 = .ok (.iconst 0, 1) := by decide +kernel
theorem d_Md_slots_2 : decode b_Md_slots 2 = .ok (.putfield 62, 3) := by decide +kernel
theorem d_Md_slots_5 : decode b_Md_slots 5 = .ok (.aload_n 0, 1) := by decide +kernel
theorem d_Md_slots_6 : decode b_Md_slots 6 = .ok (.getfield 77, 3) := by decide +kernel
theorem d_Md_slots_9 : decode b_Md_slots 9 = .ok (.ireturn, 1) := by decide +kernel
theorem d_Md_slotOf_0 : decode b_Md_slotOf 0 = .ok (.aload_n 0, 1) := by decide +kernel
theorem d_Md_slotOf_1 : decode b_Md_slotOf 1 = .ok (.iload_n 1, 1) := by decide +kernel
theorem d_Md_slotOf_2 : decode b_Md_slotOf 2 = .ok (.ifCond .lt 20, 3) := by decide +kernel
theorem d_Md_slotOf_5 : decode b_Md_slotOf 5 = .ok (.iload_n 1, 1) := by decide +kernel
theorem d_Md_slotOf_6 : decode b_Md_slotOf 6 = .ok (.aload_n 0, 1) := by decide +kernel
theorem d_Md_slotOf_7 : decode b_Md_slotOf 7 = .ok (.getfield 77, 3) := by decide +kernel
theorem d_Md_slotOf_10 : decode b_Md_slotOf 10 = .ok (.if_icmp .ge 12, 3) := by decide +kernel
theorem d_Md_slotOf_13 : decode b_Md_slotOf 13 = .ok (.iload_n 2, 1) := by decide +kernel
theorem d_Md_slotOf_14 : decode b_Md_slotOf 14 = .ok (.ifCond .lt 8, 3) := by decide +kernel
theorem d_Md_slotOf_17 : decode b_Md_slotOf 17 = .ok (.iload_n 2, 1) := by decide +kernel
theorem d_Md_slotOf_18 : decode b_Md_slotOf 18 = .ok (.iconst 2, 1) := by decide +kernel
theorem d_Md_slotOf_19 : decode b_Md_slotOf 19 = .ok (.if_icmp .le 7, 3) := by decide +kernel
theorem d_Md_slotOf_22 : decode b_Md_slotOf 22 = .ok (.iconst 1, 1) := by decide +kernel
theorem d_Md_slotOf_23 : decode b_Md_slotOf 23 = .ok (.goto 4, 3) := by decide +kernel
theorem d_Md_slotOf_26 : decode b_Md_slotOf 26 = .ok (.iconst 0, 1) := by decide +kernel
theorem d_Md_slotOf_27 : decode b_Md_slotOf 27 = .ok (.invokevirtual 70, 3) := by decide +kernel
theorem d_Md_slotOf_30 : decode b_Md_slotOf 30 = .ok (.ifCond .eq 5, 3) := by decide +kernel
theorem d_Md_slotOf_33 : decode b_Md_slotOf 33 = .ok (.iconst 0, 1) := by decide +kernel
theorem d_Md_slotOf_34 : decode b_Md_slotOf 34 = .ok (.ireturn, 1) := by decide +kernel
theorem d_Md_slotOf_35 : decode b_Md_slotOf 35 = .ok (.iload_n 2, 1) := by decide +kernel
theorem d_Md_slotOf_36 : decode b_Md_slotOf 36 = .ok (.ifCond .ne 12, 3) := by decide +kernel
theorem d_Md_slotOf_39 : decode b_Md_slotOf 39 = .ok (.aload_n 0, 1) := by decide +kernel
theorem d_Md_slotOf_40 : decode b_Md_slotOf 40 = .ok (.getfield 25, 3) := by decide +kernel
theorem d_Md_slotOf_43 : decode b_Md_slotOf 43 = .ok (.iload_n 1, 1) := by decide +kernel
theorem d_Md_slotOf_44 : decode b_Md_slotOf 44 = .ok (.iaload, 1) := by decide +kernel
theorem d_Md_slotOf_45 : decode b_Md_slotOf 45 = .ok (.goto 23, 3) := by decide +kernel
theorem d_Md_slotOf_48 : decode b_Md_slotOf 48 = .ok (.iload_n 2, 1) := by decide +kernel
theorem d_Md_slotOf_49 : decode b_Md_slotOf 49 = .ok (.iconst 1, 1) := by decide +kernel
theorem d_Md_slotOf_50 : decode b_Md_slotOf 50 = .ok (.if_icmp .ne 12, 3) := by decide +kernel
theorem d_Md_slotOf_53 : decode b_Md_slotOf 53 = .ok (.aload_n 0, 1) := by decide +kernel
theorem d_Md_slotOf_54 : decode b_Md_slotOf 54 = .ok (.getfield 28, 3) := by decide +kernel
theorem d_Md_slotOf_57 : decode b_Md_slotOf 57 = .ok (.iload_n 1, 1) := by decide +kernel
theorem d_Md_slotOf_58 : decode b_Md_slotOf 58 = .ok (.iaload, 1) := by decide +kernel
theorem d_Md_slotOf_59 : decode b_Md_slotOf 59 = .ok (.goto 9, 3) := by decide +kernel
theorem d_Md_slotOf_62 : decode b_Md_slotOf 62 = .ok (.aload_n 0, 1) := by decide +kernel
theorem d_Md_slotOf_63 : decode b_Md_slotOf 63 = .ok (.getfield 31, 3) := by decide +kernel
theorem d_Md_slotOf_66 : decode b_Md_slotOf 66 = .ok (.iload_n 1, 1) := by decide +kernel
theorem d_Md_slotOf_67 : decode b_Md_slotOf 67 = .ok (.iaload, 1) := by decide +kernel
theorem d_Md_slotOf_68 : decode b_Md_slotOf 68 = .ok (.ireturn, 1) := by decide +kernel
theorem d_Md_check_0 : decode b_Md_check 0 = .ok (.aload_n 0, 1) := by decide +kernel
theorem d_Md_check_1 : decode b_Md_check 1 = .ok (.aload_n 0, 1) := by decide +kernel
theorem d_Md_check_2 : decode b_Md_check 2 = .ok (.getfield 66, 3) := by decide +kernel
theorem d_Md_check_5 : decode b_Md_check 5 = .ok (.ifCond .eq 7, 3) := by decide +kernel
theorem d_Md_check_8 : decode b_Md_check 8 = .ok (.iconst 1, 1) := by decide +kernel
theorem d_Md_check_9 : decode b_Md_check 9 = .ok (.goto 4, 3) := by decide +kernel
theorem d_Md_check_12 : decode b_Md_check 12 = .ok (.iconst 0, 1) := by decide +kernel
theorem d_Md_check_13 : decode b_Md_check 13 = .ok (.invokevirtual 70, 3) := by decide +kernel
theorem d_Md_check_16 : decode b_Md_check 16 = .ok (.ifCond .ne 10, 3) := by decide +kernel
theorem d_Md_check_19 : decode b_Md_check 19 = .ok (.aload_n 0, 1) := by decide +kernel
theorem d_Md_check_20 : decode b_Md_check 20 = .ok (.invokevirtual 107, 3) := by decide +kernel
theorem d_Md_check_23 : decode b_Md_check 23 = .ok (.ifCond .ne 5, 3) := by decide +kernel
theorem d_Md_check_26 : decode b_Md_check 26 = .ok (.iconst 0, 1) := by decide +kernel
theorem d_Md_check_27 : decode b_Md_check 27 = .ok (.ireturn, 1) := by decide +kernel
theorem d_Md_check_28 : decode b_Md_check 28 = .ok (.aload_n 0, 1) := by decide +kernel
theorem d_Md_check_29 : decode b_Md_check 29 = .ok (.iconst 1, 1) := by decide +kernel
theorem d_Md_check_30 : decode b_Md_check 30 = .ok (.putfield 66, 3) := by decide +kernel
theorem d_Md_check_33 : decode b_Md_check 33 = .ok (.aload_n 0, 1) := by decide +kernel
theorem d_Md_check_34 : decode b_Md_check 34 = .ok (.iconst 0, 1) := by decide +kernel
theorem d_Md_check_35 : decode b_Md_check 35 = .ok (.putfield 111, 3) := by decide +kernel
theorem d_Md_check_38 : decode b_Md_check 38 = .ok (.iconst 0, 1) := by decide +kernel
theorem d_Md_check_39 : decode b_Md_check 39 = .ok (.istore_n 1, 1) := by decide +kernel
theorem d_Md_check_40 : decode b_Md_check 40 = .ok (.iload_n 1, 1) := by decide +kernel
theorem d_Md_check_41 : decode b_Md_check 41 = .ok (.bipush 16, 2) := by decide +kernel
theorem d_Md_check_43 : decode b_Md_check 43 = .ok (.if_icmp .ge 16, 3) := by decide +kernel
theorem d_Md_check_46 : decode b_Md_check 46 = .ok (.aload_n 0, 1) := by decide +kernel
theorem d_Md_check_47 : decode b_Md_check 47 = .ok (.getfield 37, 3) := by decide +kernel
theorem d_Md_check_50 : decode b_Md_check 50 = .ok (.iload_n 1, 1) := by decide +kernel
theorem d_Md_check_51 : decode b_Md_check 51 = .ok (.iconst 0, 1) := by decide +kernel
theorem d_Md_check_52 : decode b_Md_check 52 = .ok (.iastore, 1) := by decide +kernel
theorem d_Md_check_53 : decode b_Md_check 53 = .ok (.iinc 1 1, 3) := by decide +kernel
theorem d_Md_check_56 : decode b_Md_check 56 = .ok (.goto (-16), 3) := by decide +kernel
theorem d_Md_check_59 : decode b_Md_check 59 = .ok (.iconst 0, 1) := by decide +kernel
theorem d_Md_check_60 : decode b_Md_check 60 = .ok (.istore_n 1, 1) := by decide +kernel
theorem d_Md_check_61 : decode b_Md_check 61 = .ok (.iload_n 1, 1) := by decide +kernel
theorem d_Md_check_62 : decode b_Md_check 62 = .ok (.bipush 24, 2) := by decide +kernel
theorem d_Md_check_64 : decode b_Md_check 64 = .ok (.if_icmp .ge 16, 3) := by decide +kernel
theorem d_Md_check_67 : decode b_Md_check 67 = .ok (.aload_n 0, 1) := by decide +kernel
theorem d_Md_check_68 : decode b_Md_check 68 = .ok (.getfield 56, 3) := by decide +kernel
theorem d_Md_check_71 : decode b_Md_check 71 = .ok (.iload_n 1, 1) := by decide +kernel
theorem d_Md_check_72 : decode b_Md_check 72 = .ok (.iconst 0, 1) := by decide +kernel
theorem d_Md_check_73 : decode b_Md_check 73 = .ok (.iastore, 1) := by decide +kernel
theorem d_Md_check_74 : decode b_Md_check 74 = .ok (.iinc 1 1, 3) := by decide +kernel
theorem d_Md_check_77 : decode b_Md_check 77 = .ok (.goto (-16), 3) := by decide +kernel
theorem d_Md_check_80 : decode b_Md_check 80 = .ok (.iconst 0, 1) := by decide +kernel
theorem d_Md_check_81 : decode b_Md_check 81 = .ok (.istore_n 1, 1) := by decide +kernel
theorem d_Md_check_82 : decode b_Md_check 82 = .ok (.iload_n 1, 1) := by decide +kernel
theorem d_Md_check_83 : decode b_Md_check 83 = .ok (.bipush 6, 2) := by decide +kernel
theorem d_Md_check_85 : decode b_Md_check 85 = .ok (.if_icmp .ge 16, 3) := by decide +kernel
theorem d_Md_check_88 : decode b_Md_check 88 = .ok (.aload_n 0, 1) := by decide +kernel
theorem d_Md_check_89 : decode b_Md_check 89 = .ok (.getfield 40, 3) := by decide +kernel
theorem d_Md_check_92 : decode b_Md_check 92 = .ok (.iload_n 1, 1) := by decide +kernel
theorem d_Md_check_93 : decode b_Md_check 93 = .ok (.iconst 0, 1) := by decide +kernel
theorem d_Md_check_94 : decode b_Md_check 94 = .ok (.bastore, 1) := by decide +kernel
theorem d_Md_check_95 : decode b_Md_check 95 = .ok (.iinc 1 1, 3) := by decide +kernel
theorem d_Md_check_98 : decode b_Md_check 98 = .ok (.goto (-16), 3) := by decide +kernel
theorem d_Md_check_101 : decode b_Md_check 101 = .ok (.iconst 1, 1) := by decide +kernel
theorem d_Md_check_102 : decode b_Md_check 102 = .ok (.ireturn, 1) := by decide +kernel
theorem d_Md_isGood_0 : decode b_Md_isGood 0 = .ok (.aload_n 0, 1) := by decide +kernel
theorem d_Md_isGood_1 : decode b_Md_isGood 1 = .ok (.invokevirtual 80, 3) := by decide +kernel
theorem d_Md_isGood_4 : decode b_Md_isGood 4 = .ok (.istore_n 1, 1) := by decide +kernel
theorem d_Md_isGood_5 : decode b_Md_isGood 5 = .ok (.iload_n 1, 1) := by decide +kernel
theorem d_Md_isGood_6 : decode b_Md_isGood 6 = .ok (.sipush 240, 3) := by decide +kernel
theorem d_Md_isGood_9 : decode b_Md_isGood 9 = .ok (.if_icmp .gt 7, 3) := by decide +kernel
theorem d_Md_isGood_12 : decode b_Md_isGood 12 = .ok (.iconst 1, 1) := by decide +kernel
theorem d_Md_isGood_13 : decode b_Md_isGood 13 = .ok (.goto 4, 3) := by decide +kernel
theorem d_Md_isGood_16 : decode b_Md_isGood 16 = .ok (.iconst 0, 1) := by decide +kernel
theorem d_Md_isGood_17 : decode b_Md_isGood 17 = .ok (.istore_n 2, 1) := by decide +kernel
theorem d_Md_isGood_18 : decode b_Md_isGood 18 = .ok (.iconst 0, 1) := by decide +kernel
theorem d_Md_isGood_19 : decode b_Md_isGood 19 = .ok (.istore_n 3, 1) := by decide +kernel
theorem d_Md_isGood_20 : decode b_Md_isGood 20 = .ok (.iload_n 3, 1) := by decide +kernel
theorem d_Md_isGood_21 : decode b_Md_isGood 21 = .ok (.aload_n 0, 1) := by decide +kernel
theorem d_Md_isGood_22 : decode b_Md_isGood 22 = .ok (.getfield 77, 3) := by decide +kernel
theorem d_Md_isGood_25 : decode b_Md_isGood 25 = .ok (.if_icmp .ge 36, 3) := by decide +kernel
theorem d_Md_isGood_28 : decode b_Md_isGood 28 = .ok (.iload_n 2, 1) := by decide +kernel
theorem d_Md_isGood_29 : decode b_Md_isGood 29 = .ok (.ifCond .eq 24, 3) := by decide +kernel
theorem d_Md_isGood_32 : decode b_Md_isGood 32 = .ok (.aload_n 0, 1) := by decide +kernel
theorem d_Md_isGood_33 : decode b_Md_isGood 33 = .ok (.getfield 25, 3) := by decide +kernel
theorem d_Md_isGood_36 : decode b_Md_isGood 36 = .ok (.iload_n 3, 1) := by decide +kernel
theorem d_Md_isGood_37 : decode b_Md_isGood 37 = .ok (.iaload, 1) := by decide +kernel
theorem d_Md_isGood_38 : decode b_Md_isGood 38 = .ok (.aload_n 0, 1) := by decide +kernel
theorem d_Md_isGood_39 : decode b_Md_isGood 39 = .ok (.getfield 28, 3) := by decide +kernel
theorem d_Md_isGood_42 : decode b_Md_isGood 42 = .ok (.iload_n 3, 1) := by decide +kernel
theorem d_Md_isGood_43 : decode b_Md_isGood 43 = .ok (.iaload, 1) := by decide +kernel
theorem d_Md_isGood_44 : decode b_Md_isGood 44 = .ok (.iadd, 1) := by decide +kernel
theorem d_Md_isGood_45 : decode b_Md_isGood 45 = .ok (.iload_n 1, 1) := by decide +kernel
theorem d_Md_isGood_46 : decode b_Md_isGood 46 = .ok (.if_icmp .gt 7, 3) := by decide +kernel
theorem d_Md_isGood_49 : decode b_Md_isGood 49 = .ok (.iconst 1, 1) := by decide +kernel
theorem d_Md_isGood_50 : decode b_Md_isGood 50 = .ok (.goto 4, 3) := by decide +kernel
theorem d_Md_isGood_53 : decode b_Md_isGood 53 = .ok (.iconst 0, 1) := by decide +kernel
theorem d_Md_isGood_54 : decode b_Md_isGood 54 = .ok (.istore_n 2, 1) := by decide +kernel
theorem d_Md_isGood_55 : decode b_Md_isGood 55 = .ok (.iinc 3 1, 3) := by decide +kernel
theorem d_Md_isGood_58 : decode b_Md_isGood 58 = .ok (.goto (-38), 3) := by decide +kernel
theorem d_Md_isGood_61 : decode b_Md_isGood 61 = .ok (.iconst 0, 1) := by decide +kernel
theorem d_Md_isGood_62 : decode b_Md_isGood 62 = .ok (.istore_n 3, 1) := by decide +kernel
theorem d_Md_isGood_63 : decode b_Md_isGood 63 = .ok (.iload_n 3, 1) := by decide +kernel
theorem d_Md_isGood_64 : decode b_Md_isGood 64 = .ok (.iload_n 1, 1) := by decide +kernel
theorem d_Md_isGood_65 : decode b_Md_isGood 65 = .ok (.if_icmp .ge 28, 3) := by decide +kernel
theorem d_Md_isGood_68 : decode b_Md_isGood 68 = .ok (.iload_n 2, 1) := by decide +kernel
theorem d_Md_isGood_69 : decode b_Md_isGood 69 = .ok (.ifCond .eq 24, 3) := by decide +kernel
theorem d_Md_isGood_72 : decode b_Md_isGood 72 = .ok (.aload_n 0, 1) := by decide +kernel
theorem d_Md_isGood_73 : decode b_Md_isGood 73 = .ok (.iload_n 3, 1) := by decide +kernel
theorem d_Md_isGood_74 : decode b_Md_isGood 74 = .ok (.invokevirtual 101, 3) := by decide +kernel
theorem d_Md_isGood_77 : decode b_Md_isGood 77 = .ok (.iconst 2, 1) := by decide +kernel
theorem d_Md_isGood_78 : decode b_Md_isGood 78 = .ok (.if_icmp .ge 7, 3) := by decide +kernel
theorem d_Md_isGood_81 : decode b_Md_isGood 81 = .ok (.iconst 1, 1) := by decide +kernel
theorem d_Md_isGood_82 : decode b_Md_isGood 82 = .ok (.goto 4, 3) := by decide +kernel
theorem d_Md_isGood_85 : decode b_Md_isGood 85 = .ok (.iconst 0, 1) := by decide +kernel
theorem d_Md_isGood_86 : decode b_Md_isGood 86 = .ok (.istore_n 2, 1) := by decide +kernel
theorem d_Md_isGood_87 : decode b_Md_isGood 87 = .ok (.iinc 3 1, 3) := by decide +kernel
theorem d_Md_isGood_90 : decode b_Md_isGood 90 = .ok (.goto (-27), 3) := by decide +kernel
theorem d_Md_isGood_93 : decode b_Md_isGood 93 = .ok (.iconst 0, 1) := by decide +kernel
theorem d_Md_isGood_94 : decode b_Md_isGood 94 = .ok (.istore_n 3, 1) := by decide +kernel
theorem d_Md_isGood_95 : decode b_Md_isGood 95 = .ok (.iload_n 3, 1) := by decide +kernel
theorem d_Md_isGood_96 : decode b_Md_isGood 96 = .ok (.aload_n 0, 1) := by decide +kernel
theorem d_Md_isGood_97 : decode b_Md_isGood 97 = .ok (.getfield 74, 3) := by decide +kernel
theorem d_Md_isGood_100 : decode b_Md_isGood 100 = .ok (.if_icmp .ge 20, 3) := by decide +kernel
theorem d_Md_isGood_103 : decode b_Md_isGood 103 = .ok (.iload_n 2, 1) := by decide +kernel
theorem d_Md_isGood_104 : decode b_Md_isGood 104 = .ok (.ifCond .eq 16, 3) := by decide +kernel
theorem d_Md_isGood_107 : decode b_Md_isGood 107 = .ok (.aload_n 0, 1) := by decide +kernel
theorem d_Md_isGood_108 : decode b_Md_isGood 108 = .ok (.iload_n 3, 1) := by decide +kernel
theorem d_Md_isGood_109 : decode b_Md_isGood 109 = .ok (.iload_n 1, 1) := by decide +kernel
theorem d_Md_isGood_110 : decode b_Md_isGood 110 = .ok (.invokevirtual 104, 3) := by decide +kernel
theorem d_Md_isGood_113 : decode b_Md_isGood 113 = .ok (.istore_n 2, 1) := by decide +kernel
theorem d_Md_isGood_114 : decode b_Md_isGood 114 = .ok (.iinc 3 1, 3) := by decide +kernel
theorem d_Md_isGood_117 : decode b_Md_isGood 117 = .ok (.goto (-22), 3) := by decide +kernel
theorem d_Md_isGood_120 : decode b_Md_isGood 120 = .ok (.iload_n 2, 1) := by decide +kernel
theorem d_Md_isGood_121 : decode b_Md_isGood 121 = .ok (.ireturn, 1) := by decide +kernel
theorem d_Md_covering_0 : decode b_Md_covering 0 = .ok (.iconst 0, 1) := by decide +kernel
theorem d_Md_covering_1 : decode b_Md_covering 1 = .ok (.istore_n 2, 1) := by decide +kernel
theorem d_Md_covering_2 : decode b_Md_covering 2 = .ok (.iconst 0, 1) := by decide +kernel
theorem d_Md_covering_3 : decode b_Md_covering 3 = .ok (.istore_n 3, 1) := by decide +kernel
theorem d_Md_covering_4 : decode b_Md_covering 4 = .ok (.iload_n 3, 1) := by decide +kernel
theorem d_Md_covering_5 : decode b_Md_covering 5 = .ok (.aload_n 0, 1) := by decide +kernel
theorem d_Md_covering_6 : decode b_Md_covering 6 = .ok (.getfield 77, 3) := by decide +kernel
theorem d_Md_covering_9 : decode b_Md_covering 9 = .ok (.if_icmp .ge 44, 3) := by decide +kernel
theorem d_Md_covering_12 : decode b_Md_covering 12 = .ok (.iload_n 1, 1) := by decide +kernel
theorem d_Md_covering_13 : decode b_Md_covering 13 = .ok (.aload_n 0, 1) := by decide +kernel
theorem d_Md_covering_14 : decode b_Md_covering 14 = .ok (.getfield 25, 3) := by decide +kernel
theorem d_Md_covering_17 : decode b_Md_covering 17 = .ok (.iload_n 3, 1) := by decide +kernel
theorem d_Md_covering_18 : decode b_Md_covering 18 = .ok (.iaload, 1) := by decide +kernel
theorem d_Md_covering_19 : decode b_Md_covering 19 = .ok (.if_icmp .lt 26, 3) := by decide +kernel
theorem d_Md_covering_22 : decode b_Md_covering 22 = .ok (.iload_n 1, 1) := by decide +kernel
theorem d_Md_covering_23 : decode b_Md_covering 23 = .ok (.aload_n 0, 1) := by decide +kernel
theorem d_Md_covering_24 : decode b_Md_covering 24 = .ok (.getfield 25, 3) := by decide +kernel
theorem d_Md_covering_27 : decode b_Md_covering 27 = .ok (.iload_n 3, 1) := by decide +kernel
theorem d_Md_covering_28 : decode b_Md_covering 28 = .ok (.iaload, 1) := by decide +kernel
theorem d_Md_covering_29 : decode b_Md_covering 29 = .ok (.aload_n 0, 1) := by decide +kernel
theorem d_Md_covering_30 : decode b_Md_covering 30 = .ok (.getfield 28, 3) := by decide +kernel
theorem d_Md_covering_33 : decode b_Md_covering 33 = .ok (.iload_n 3, 1) := by decide +kernel
theorem d_Md_covering_34 : decode b_Md_covering 34 = .ok (.iaload, 1) := by decide +kernel
theorem d_Md_covering_35 : decode b_Md_covering 35 = .ok (.iadd, 1) := by decide +kernel
theorem d_Md_covering_36 : decode b_Md_covering 36 = .ok (.if_icmp .ge 9, 3) := by decide +kernel
theorem d_Md_covering_39 : decode b_Md_covering 39 = .ok (.iload_n 2, 1) := by decide +kernel
theorem d_Md_covering_40 : decode b_Md_covering 40 = .ok (.iconst 1, 1) := by decide +kernel
theorem d_Md_covering_41 : decode b_Md_covering 41 = .ok (.iadd, 1) := by decide +kernel
theorem d_Md_covering_42 : decode b_Md_covering 42 = .ok (.goto 4, 3) := by decide +kernel
theorem d_Md_covering_45 : decode b_Md_covering 45 = .ok (.iload_n 2, 1) := by decide +kernel
theorem d_Md_covering_46 : decode b_Md_covering 46 = .ok (.istore_n 2, 1) := by decide +kernel
theorem d_Md_covering_47 : decode b_Md_covering 47 = .ok (.iinc 3 1, 3) := by decide +kernel
theorem d_Md_covering_50 : decode b_Md_covering 50 = .ok (.goto (-46), 3) := by decide +kernel
theorem d_Md_covering_53 : decode b_Md_covering 53 = .ok (.iload_n 2, 1) := by decide +kernel
theorem d_Md_covering_54 : decode b_Md_covering 54 = .ok (.ireturn, 1) := by decide +kernel
theorem d_Md_isServed_0 : decode b_Md_isServed 0 = .ok (.iconst 1, 1) := by decide +kernel
theorem d_Md_isServed_1 : decode b_Md_isServed 1 = .ok (.istore_n 3, 1) := by decide +kernel
theorem d_Md_isServed_2 : decode b_Md_isServed 2 = .ok (.iconst 0, 1) := by decide +kernel
theorem d_Md_isServed_3 : decode b_Md_isServed 3 = .ok (.istore 4, 2) := by decide +kernel
theorem d_Md_isServed_5 : decode b_Md_isServed 5 = .ok (.iconst 0, 1) := by decide +kernel
theorem d_Md_isServed_6 : decode b_Md_isServed 6 = .ok (.istore 5, 2) := by decide +kernel
theorem d_Md_isServed_8 : decode b_Md_isServed 8 = .ok (.iload 5, 2) := by decide +kernel
theorem d_Md_isServed_10 : decode b_Md_isServed 10 = .ok (.iload_n 2, 1) := by decide +kernel
theorem d_Md_isServed_11 : decode b_Md_isServed 11 = .ok (.aload_n 0, 1) := by decide +kernel
theorem d_Md_isServed_12 : decode b_Md_isServed 12 = .ok (.getfield 7, 3) := by decide +kernel
theorem d_Md_isServed_15 : decode b_Md_isServed 15 = .ok (.iload_n 1, 1) := by decide +kernel
theorem d_Md_isServed_16 : decode b_Md_isServed 16 = .ok (.iaload, 1) := by decide +kernel
theorem d_Md_isServed_17 : decode b_Md_isServed 17 = .ok (.idiv, 1) := by decide +kernel
theorem d_Md_isServed_18 : decode b_Md_isServed 18 = .ok (.if_icmp .ge 100, 3) := by decide +kernel
theorem d_Md_isServed_21 : decode b_Md_isServed 21 = .ok (.iconst 0, 1) := by decide +kernel
theorem d_Md_isServed_22 : decode b_Md_isServed 22 = .ok (.istore 6, 2) := by decide +kernel
theorem d_Md_isServed_24 : decode b_Md_isServed 24 = .ok (.iconst 0, 1) := by decide +kernel
theorem d_Md_isServed_25 : decode b_Md_isServed 25 = .ok (.istore 7, 2) := by decide +kernel
theorem d_Md_isServed_27 : decode b_Md_isServed 27 = .ok (.iload 7, 2) := by decide +kernel
theorem d_Md_isServed_29 : decode b_Md_isServed 29 = .ok (.aload_n 0, 1) := by decide +kernel
theorem d_Md_isServed_30 : decode b_Md_isServed 30 = .ok (.getfield 16, 3) := by decide +kernel
theorem d_Md_isServed_33 : decode b_Md_isServed 33 = .ok (.iload_n 1, 1) := by decide +kernel
theorem d_Md_isServed_34 : decode b_Md_isServed 34 = .ok (.iaload, 1) := by decide +kernel
theorem d_Md_isServed_35 : decode b_Md_isServed 35 = .ok (.if_icmp .ge 49, 3) := by decide +kernel
theorem d_Md_isServed_38 : decode b_Md_isServed 38 = .ok (.aload_n 0, 1) := by decide +kernel
theorem d_Md_isServed_39 : decode b_Md_isServed 39 = .ok (.aload_n 0, 1) := by decide +kernel
theorem d_Md_isServed_40 : decode b_Md_isServed 40 = .ok (.getfield 19, 3) := by decide +kernel
theorem d_Md_isServed_43 : decode b_Md_isServed 43 = .ok (.iload_n 1, 1) := by decide +kernel
theorem d_Md_isServed_44 : decode b_Md_isServed 44 = .ok (.iaload, 1) := by decide +kernel
theorem d_Md_isServed_45 : decode b_Md_isServed 45 = .ok (.iload 5, 2) := by decide +kernel
theorem d_Md_isServed_47 : decode b_Md_isServed 47 = .ok (.aload_n 0, 1) := by decide +kernel
theorem d_Md_isServed_48 : decode b_Md_isServed 48 = .ok (.getfield 7, 3) := by decide +kernel
theorem d_Md_isServed_51 : decode b_Md_isServed 51 = .ok (.iload_n 1, 1) := by decide +kernel
theorem d_Md_isServed_52 : decode b_Md_isServed 52 = .ok (.iaload, 1) := by decide +kernel
theorem d_Md_isServed_53 : decode b_Md_isServed 53 = .ok (.imul, 1) := by decide +kernel
theorem d_Md_isServed_54 : decode b_Md_isServed 54 = .ok (.iadd, 1) := by decide +kernel
theorem d_Md_isServed_55 : decode b_Md_isServed 55 = .ok (.iload 7, 2) := by decide +kernel
theorem d_Md_isServed_57 : decode b_Md_isServed 57 = .ok (.iadd, 1) := by decide +kernel
theorem d_Md_isServed_58 : decode b_Md_isServed 58 = .ok (.iload_n 2, 1) := by decide +kernel
theorem d_Md_isServed_59 : decode b_Md_isServed 59 = .ok (.irem, 1) := by decide +kernel
theorem d_Md_isServed_60 : decode b_Md_isServed 60 = .ok (.invokevirtual 97, 3) := by decide +kernel
theorem d_Md_isServed_63 : decode b_Md_isServed 63 = .ok (.iload_n 1, 1) := by decide +kernel
theorem d_Md_isServed_64 : decode b_Md_isServed 64 = .ok (.if_icmp .ne 10, 3) := by decide +kernel
theorem d_Md_isServed_67 : decode b_Md_isServed 67 = .ok (.iload 6, 2) := by decide +kernel
theorem d_Md_isServed_69 : decode b_Md_isServed 69 = .ok (.iconst 1, 1) := by decide +kernel
theorem d_Md_isServed_70 : decode b_Md_isServed 70 = .ok (.iadd, 1) := by decide +kernel
theorem d_Md_isServed_71 : decode b_Md_isServed 71 = .ok (.goto 5, 3) := by decide +kernel
theorem d_Md_isServed_74 : decode b_Md_isServed 74 = .ok (.iload 6, 2) := by decide +kernel
theorem d_Md_isServed_76 : decode b_Md_isServed 76 = .ok (.istore 6, 2) := by decide +kernel
theorem d_Md_isServed_78 : decode b_Md_isServed 78 = .ok (.iinc 7 1, 3) := by decide +kernel
theorem d_Md_isServed_81 : decode b_Md_isServed 81 = .ok (.goto (-54), 3) := by decide +kernel
theorem d_Md_isServed_84 : decode b_Md_isServed 84 = .ok (.iload_n 3, 1) := by decide +kernel
theorem d_Md_isServed_85 : decode b_Md_isServed 85 = .ok (.ifCond .eq 18, 3) := by decide +kernel
theorem d_Md_isServed_88 : decode b_Md_isServed 88 = .ok (.iload 6, 2) := by decide +kernel
theorem d_Md_isServed_90 : decode b_Md_isServed 90 = .ok (.aload_n 0, 1) := by decide +kernel
theorem d_Md_isServed_91 : decode b_Md_isServed 91 = .ok (.getfield 13, 3) := by decide +kernel
theorem d_Md_isServed_94 : decode b_Md_isServed 94 = .ok (.iload_n 1, 1) := by decide +kernel
theorem d_Md_isServed_95 : decode b_Md_isServed 95 = .ok (.iaload, 1) := by decide +kernel
theorem d_Md_isServed_96 : decode b_Md_isServed 96 = .ok (.if_icmp .ne 7, 3) := by decide +kernel
theorem d_Md_isServed_99 : decode b_Md_isServed 99 = .ok (.iconst 1, 1) := by decide +kernel
theorem d_Md_isServed_100 : decode b_Md_isServed 100 = .ok (.goto 4, 3) := by decide +kernel
theorem d_Md_isServed_103 : decode b_Md_isServed 103 = .ok (.iconst 0, 1) := by decide +kernel
theorem d_Md_isServed_104 : decode b_Md_isServed 104 = .ok (.istore_n 3, 1) := by decide +kernel
theorem d_Md_isServed_105 : decode b_Md_isServed 105 = .ok (.iload 4, 2) := by decide +kernel
theorem d_Md_isServed_107 : decode b_Md_isServed 107 = .ok (.iload 6, 2) := by decide +kernel
theorem d_Md_isServed_109 : decode b_Md_isServed 109 = .ok (.iadd, 1) := by decide +kernel
theorem d_Md_isServed_110 : decode b_Md_isServed 110 = .ok (.istore 4, 2) := by decide +kernel
theorem d_Md_isServed_112 : decode b_Md_isServed 112 = .ok (.iinc 5 1, 3) := by decide +kernel
theorem d_Md_isServed_115 : decode b_Md_isServed 115 = .ok (.goto (-107), 3) := by decide +kernel
theorem d_Md_isServed_118 : decode b_Md_isServed 118 = .ok (.iconst 0, 1) := by decide +kernel
theorem d_Md_isServed_119 : decode b_Md_isServed 119 = .ok (.istore 5, 2) := by decide +kernel
theorem d_Md_isServed_121 : decode b_Md_isServed 121 = .ok (.iconst 0, 1) := by decide +kernel
theorem d_Md_isServed_122 : decode b_Md_isServed 122 = .ok (.istore 6, 2) := by decide +kernel
theorem d_Md_isServed_124 : decode b_Md_isServed 124 = .ok (.iload 6, 2) := by decide +kernel
theorem d_Md_isServed_126 : decode b_Md_isServed 126 = .ok (.iload_n 2, 1) := by decide +kernel
theorem d_Md_isServed_127 : decode b_Md_isServed 127 = .ok (.if_icmp .ge 30, 3) := by decide +kernel
theorem d_Md_isServed_130 : decode b_Md_isServed 130 = .ok (.aload_n 0, 1) := by decide +kernel
theorem d_Md_isServed_131 : decode b_Md_isServed 131 = .ok (.iload 6, 2) := by decide +kernel
theorem d_Md_isServed_133 : decode b_Md_isServed 133 = .ok (.invokevirtual 97, 3) := by decide +kernel
theorem d_Md_isServed_136 : decode b_Md_isServed 136 = .ok (.iload_n 1, 1) := by decide +kernel
theorem d_Md_isServed_137 : decode b_Md_isServed 137 = .ok (.if_icmp .ne 10, 3) := by decide +kernel
theorem d_Md_isServed_140 : decode b_Md_isServed 140 = .ok (.iload 5, 2) := by decide +kernel
theorem d_Md_isServed_142 : decode b_Md_isServed 142 = .ok (.iconst 1, 1) := by decide +kernel
theorem d_Md_isServed_143 : decode b_Md_isServed 143 = .ok (.iadd, 1) := by decide +kernel
theorem d_Md_isServed_144 : decode b_Md_isServed 144 = .ok (.goto 5, 3) := by decide +kernel
theorem d_Md_isServed_147 : decode b_Md_isServed 147 = .ok (.iload 5, 2) := by decide +kernel
theorem d_Md_isServed_149 : decode b_Md_isServed 149 = .ok (.istore 5, 2) := by decide +kernel
theorem d_Md_isServed_151 : decode b_Md_isServed 151 = .ok (.iinc 6 1, 3) := by decide +kernel
theorem d_Md_isServed_154 : decode b_Md_isServed 154 = .ok (.goto (-30), 3) := by decide +kernel
theorem d_Md_isServed_157 : decode b_Md_isServed 157 = .ok (.iload_n 3, 1) := by decide +kernel
theorem d_Md_isServed_158 : decode b_Md_isServed 158 = .ok (.ifCond .eq 14, 3) := by decide +kernel
theorem d_Md_isServed_161 : decode b_Md_isServed 161 = .ok (.iload 5, 2) := by decide +kernel
theorem d_Md_isServed_163 : decode b_Md_isServed 163 = .ok (.iload 4, 2) := by decide +kernel
theorem d_Md_isServed_165 : decode b_Md_isServed 165 = .ok (.if_icmp .ne 7, 3) := by decide +kernel
theorem d_Md_isServed_168 : decode b_Md_isServed 168 = .ok (.iconst 1, 1) := by decide +kernel
theorem d_Md_isServed_169 : decode b_Md_isServed 169 = .ok (.goto 4, 3) := by decide +kernel
theorem d_Md_isServed_172 : decode b_Md_isServed 172 = .ok (.iconst 0, 1) := by decide +kernel
theorem d_Md_isServed_173 : decode b_Md_isServed 173 = .ok (.ireturn, 1) := by decide +kernel
theorem d_Md_at_0 : decode b_Md_at 0 = .ok (.iconst (-1), 1) := by decide +kernel
theorem d_Md_at_1 : decode b_Md_at 1 = .ok (.istore_n 2, 1) := by decide +kernel
theorem d_Md_at_2 : decode b_Md_at 2 = .ok (.iconst 0, 1) := by decide +kernel
theorem d_Md_at_3 : decode b_Md_at 3 = .ok (.istore_n 3, 1) := by decide +kernel
theorem d_Md_at_4 : decode b_Md_at 4 = .ok (.iload_n 3, 1) := by decide +kernel
theorem d_Md_at_5 : decode b_Md_at 5 = .ok (.aload_n 0, 1) := by decide +kernel
theorem d_Md_at_6 : decode b_Md_at 6 = .ok (.getfield 77, 3) := by decide +kernel
theorem d_Md_at_9 : decode b_Md_at 9 = .ok (.if_icmp .ge 47, 3) := by decide +kernel
theorem d_Md_at_12 : decode b_Md_at 12 = .ok (.iload_n 1, 1) := by decide +kernel
theorem d_Md_at_13 : decode b_Md_at 13 = .ok (.aload_n 0, 1) := by decide +kernel
theorem d_Md_at_14 : decode b_Md_at 14 = .ok (.getfield 25, 3) := by decide +kernel
theorem d_Md_at_17 : decode b_Md_at 17 = .ok (.iload_n 3, 1) := by decide +kernel
theorem d_Md_at_18 : decode b_Md_at 18 = .ok (.iaload, 1) := by decide +kernel
theorem d_Md_at_19 : decode b_Md_at 19 = .ok (.if_icmp .lt 29, 3) := by decide +kernel
theorem d_Md_at_22 : decode b_Md_at 22 = .ok (.iload_n 1, 1) := by decide +kernel
theorem d_Md_at_23 : decode b_Md_at 23 = .ok (.aload_n 0, 1) := by decide +kernel
theorem d_Md_at_24 : decode b_Md_at 24 = .ok (.getfield 25, 3) := by decide +kernel
theorem d_Md_at_27 : decode b_Md_at 27 = .ok (.iload_n 3, 1) := by decide +kernel
theorem d_Md_at_28 : decode b_Md_at 28 = .ok (.iaload, 1) := by decide +kernel
theorem d_Md_at_29 : decode b_Md_at 29 = .ok (.aload_n 0, 1) := by decide +kernel
theorem d_Md_at_30 : decode b_Md_at 30 = .ok (.getfield 28, 3) := by decide +kernel
theorem d_Md_at_33 : decode b_Md_at 33 = .ok (.iload_n 3, 1) := by decide +kernel
theorem d_Md_at_34 : decode b_Md_at 34 = .ok (.iaload, 1) := by decide +kernel
theorem d_Md_at_35 : decode b_Md_at 35 = .ok (.iadd, 1) := by decide +kernel
theorem d_Md_at_36 : decode b_Md_at 36 = .ok (.if_icmp .ge 12, 3) := by decide +kernel
theorem d_Md_at_39 : decode b_Md_at 39 = .ok (.aload_n 0, 1) := by decide +kernel
theorem d_Md_at_40 : decode b_Md_at 40 = .ok (.getfield 31, 3) := by decide +kernel
theorem d_Md_at_43 : decode b_Md_at 43 = .ok (.iload_n 3, 1) := by decide +kernel
theorem d_Md_at_44 : decode b_Md_at 44 = .ok (.iaload, 1) := by decide +kernel
theorem d_Md_at_45 : decode b_Md_at 45 = .ok (.goto 4, 3) := by decide +kernel
theorem d_Md_at_48 : decode b_Md_at 48 = .ok (.iload_n 2, 1) := by decide +kernel
theorem d_Md_at_49 : decode b_Md_at 49 = .ok (.istore_n 2, 1) := by decide +kernel
theorem d_Md_at_50 : decode b_Md_at 50 = .ok (.iinc 3 1, 3) := by decide +kernel
theorem d_Md_at_53 : decode b_Md_at 53 = .ok (.goto (-49), 3) := by decide +kernel
theorem d_Md_at_56 : decode b_Md_at 56 = .ok (.iload_n 2, 1) := by decide +kernel
theorem d_Md_at_57 : decode b_Md_at 57 = .ok (.ireturn, 1) := by decide +kernel
theorem d_Md_stop_0 : decode b_Md_stop 0 = .ok (.aload_n 0, 1) := by decide +kernel
theorem d_Md_stop_1 : decode b_Md_stop 1 = .ok (.aload_n 0, 1) := by decide +kernel
theorem d_Md_stop_2 : decode b_Md_stop 2 = .ok (.getfield 66, 3) := by decide +kernel
theorem d_Md_stop_5 : decode b_Md_stop 5 = .ok (.ifCond .eq 7, 3) := by decide +kernel
theorem d_Md_stop_8 : decode b_Md_stop 8 = .ok (.iconst 0, 1) := by decide +kernel
theorem d_Md_stop_9 : decode b_Md_stop 9 = .ok (.goto 4, 3) := by decide +kernel
theorem d_Md_stop_12 : decode b_Md_stop 12 = .ok (.iconst 1, 1) := by decide +kernel
theorem d_Md_stop_13 : decode b_Md_stop 13 = .ok (.invokevirtual 70, 3) := by decide +kernel
theorem d_Md_stop_16 : decode b_Md_stop 16 = .ok (.ifCond .ne 8, 3) := by decide +kernel
theorem d_Md_stop_19 : decode b_Md_stop 19 = .ok (.aload_n 0, 1) := by decide +kernel
theorem d_Md_stop_20 : decode b_Md_stop 20 = .ok (.iconst 0, 1) := by decide +kernel
theorem d_Md_stop_21 : decode b_Md_stop 21 = .ok (.putfield 66, 3) := by decide +kernel
theorem d_Md_stop_24 : decode b_Md_stop 24 = .ok (.return_, 1) := by decide +kernel
theorem d_Md_tick_0 : decode b_Md_tick 0 = .ok (.aload_n 0, 1) := by decide +kernel
theorem d_Md_tick_1 : decode b_Md_tick 1 = .ok (.aload_n 0, 1) := by decide +kernel
theorem d_Md_tick_2 : decode b_Md_tick 2 = .ok (.getfield 66, 3) := by decide +kernel
theorem d_Md_tick_5 : decode b_Md_tick 5 = .ok (.ifCond .eq 7, 3) := by decide +kernel
theorem d_Md_tick_8 : decode b_Md_tick 8 = .ok (.iconst 0, 1) := by decide +kernel
theorem d_Md_tick_9 : decode b_Md_tick 9 = .ok (.goto 4, 3) := by decide +kernel
theorem d_Md_tick_12 : decode b_Md_tick 12 = .ok (.iconst 1, 1) := by decide +kernel
theorem d_Md_tick_13 : decode b_Md_tick 13 = .ok (.invokevirtual 70, 3) := by decide +kernel
theorem d_Md_tick_16 : decode b_Md_tick 16 = .ok (.ifCond .eq 7, 3) := by decide +kernel
theorem d_Md_tick_19 : decode b_Md_tick 19 = .ok (.iconst 0, 1) := by decide +kernel
theorem d_Md_tick_20 : decode b_Md_tick 20 = .ok (.goto 7, 3) := by decide +kernel
theorem d_Md_tick_23 : decode b_Md_tick 23 = .ok (.aload_n 0, 1) := by decide +kernel
theorem d_Md_tick_24 : decode b_Md_tick 24 = .ok (.invokevirtual 121, 3) := by decide +kernel
theorem d_Md_tick_27 : decode b_Md_tick 27 = .ok (.ireturn, 1) := by decide +kernel
theorem d_Md_one_0 : decode b_Md_one 0 = .ok (.iconst 0, 1) := by decide +kernel
theorem d_Md_one_1 : decode b_Md_one 1 = .ok (.istore_n 1, 1) := by decide +kernel
theorem d_Md_one_2 : decode b_Md_one 2 = .ok (.iload_n 1, 1) := by decide +kernel
theorem d_Md_one_3 : decode b_Md_one 3 = .ok (.aload_n 0, 1) := by decide +kernel
theorem d_Md_one_4 : decode b_Md_one 4 = .ok (.getfield 74, 3) := by decide +kernel
theorem d_Md_one_7 : decode b_Md_one 7 = .ok (.if_icmp .ge 26, 3) := by decide +kernel
theorem d_Md_one_10 : decode b_Md_one 10 = .ok (.aload_n 0, 1) := by decide +kernel
theorem d_Md_one_11 : decode b_Md_one 11 = .ok (.iload_n 1, 1) := by decide +kernel
theorem d_Md_one_12 : decode b_Md_one 12 = .ok (.aload_n 0, 1) := by decide +kernel
theorem d_Md_one_13 : decode b_Md_one 13 = .ok (.getfield 111, 3) := by decide +kernel
theorem d_Md_one_16 : decode b_Md_one 16 = .ok (.invokevirtual 84, 3) := by decide +kernel
theorem d_Md_one_19 : decode b_Md_one 19 = .ok (.ifCond .eq 8, 3) := by decide +kernel
theorem d_Md_one_22 : decode b_Md_one 22 = .ok (.aload_n 0, 1) := by decide +kernel
theorem d_Md_one_23 : decode b_Md_one 23 = .ok (.iload_n 1, 1) := by decide +kernel
theorem d_Md_one_24 : decode b_Md_one 24 = .ok (.invokevirtual 114, 3) := by decide +kernel
theorem d_Md_one_27 : decode b_Md_one 27 = .ok (.iinc 1 1, 3) := by decide +kernel
theorem d_Md_one_30 : decode b_Md_one 30 = .ok (.goto (-28), 3) := by decide +kernel
theorem d_Md_one_33 : decode b_Md_one 33 = .ok (.aload_n 0, 1) := by decide +kernel
theorem d_Md_one_34 : decode b_Md_one 34 = .ok (.aload_n 0, 1) := by decide +kernel
theorem d_Md_one_35 : decode b_Md_one 35 = .ok (.getfield 111, 3) := by decide +kernel
theorem d_Md_one_38 : decode b_Md_one 38 = .ok (.aload_n 0, 1) := by decide +kernel
theorem d_Md_one_39 : decode b_Md_one 39 = .ok (.invokevirtual 80, 3) := by decide +kernel
theorem d_Md_one_42 : decode b_Md_one 42 = .ok (.irem, 1) := by decide +kernel
theorem d_Md_one_43 : decode b_Md_one 43 = .ok (.invokevirtual 97, 3) := by decide +kernel
theorem d_Md_one_46 : decode b_Md_one 46 = .ok (.istore_n 1, 1) := by decide +kernel
theorem d_Md_one_47 : decode b_Md_one 47 = .ok (.aload_n 0, 1) := by decide +kernel
theorem d_Md_one_48 : decode b_Md_one 48 = .ok (.dup, 1) := by decide +kernel
theorem d_Md_one_49 : decode b_Md_one 49 = .ok (.getfield 111, 3) := by decide +kernel
theorem d_Md_one_52 : decode b_Md_one 52 = .ok (.iconst 1, 1) := by decide +kernel
theorem d_Md_one_53 : decode b_Md_one 53 = .ok (.iadd, 1) := by decide +kernel
theorem d_Md_one_54 : decode b_Md_one 54 = .ok (.putfield 111, 3) := by decide +kernel
theorem d_Md_one_57 : decode b_Md_one 57 = .ok (.iload_n 1, 1) := by decide +kernel
theorem d_Md_one_58 : decode b_Md_one 58 = .ok (.ifCond .lt 12, 3) := by decide +kernel
theorem d_Md_one_61 : decode b_Md_one 61 = .ok (.aload_n 0, 1) := by decide +kernel
theorem d_Md_one_62 : decode b_Md_one 62 = .ok (.getfield 40, 3) := by decide +kernel
theorem d_Md_one_65 : decode b_Md_one 65 = .ok (.iload_n 1, 1) := by decide +kernel
theorem d_Md_one_66 : decode b_Md_one 66 = .ok (.baload, 1) := by decide +kernel
theorem d_Md_one_67 : decode b_Md_one 67 = .ok (.ifCond .ne 5, 3) := by decide +kernel
theorem d_Md_one_70 : decode b_Md_one 70 = .ok (.iconst (-1), 1) := by decide +kernel
theorem d_Md_one_71 : decode b_Md_one 71 = .ok (.ireturn, 1) := by decide +kernel
theorem d_Md_one_72 : decode b_Md_one 72 = .ok (.aload_n 0, 1) := by decide +kernel
theorem d_Md_one_73 : decode b_Md_one 73 = .ok (.iload_n 1, 1) := by decide +kernel
theorem d_Md_one_74 : decode b_Md_one 74 = .ok (.invokevirtual 118, 3) := by decide +kernel
theorem d_Md_one_77 : decode b_Md_one 77 = .ok (.istore_n 2, 1) := by decide +kernel
theorem d_Md_one_78 : decode b_Md_one 78 = .ok (.aload_n 0, 1) := by decide +kernel
theorem d_Md_one_79 : decode b_Md_one 79 = .ok (.getfield 47, 3) := by decide +kernel
theorem d_Md_one_82 : decode b_Md_one 82 = .ok (.iload_n 1, 1) := by decide +kernel
theorem d_Md_one_83 : decode b_Md_one 83 = .ok (.dup2, 1) := by decide +kernel
theorem d_Md_one_84 : decode b_Md_one 84 = .ok (.iaload, 1) := by decide +kernel
theorem d_Md_one_85 : decode b_Md_one 85 = .ok (.iconst 1, 1) := by decide +kernel
theorem d_Md_one_86 : decode b_Md_one 86 = .ok (.iadd, 1) := by decide +kernel
theorem d_Md_one_87 : decode b_Md_one 87 = .ok (.iastore, 1) := by decide +kernel
theorem d_Md_one_88 : decode b_Md_one 88 = .ok (.iload_n 2, 1) := by decide +kernel
theorem d_Md_one_89 : decode b_Md_one 89 = .ok (.ifCond .ne 22, 3) := by decide +kernel
theorem d_Md_one_92 : decode b_Md_one 92 = .ok (.aload_n 0, 1) := by decide +kernel
theorem d_Md_one_93 : decode b_Md_one 93 = .ok (.getfield 47, 3) := by decide +kernel
theorem d_Md_one_96 : decode b_Md_one 96 = .ok (.iload_n 1, 1) := by decide +kernel
theorem d_Md_one_97 : decode b_Md_one 97 = .ok (.iaload, 1) := by decide +kernel
theorem d_Md_one_98 : decode b_Md_one 98 = .ok (.aload_n 0, 1) := by decide +kernel
theorem d_Md_one_99 : decode b_Md_one 99 = .ok (.getfield 13, 3) := by decide +kernel
theorem d_Md_one_102 : decode b_Md_one 102 = .ok (.iload_n 1, 1) := by decide +kernel
theorem d_Md_one_103 : decode b_Md_one 103 = .ok (.iaload, 1) := by decide +kernel
theorem d_Md_one_104 : decode b_Md_one 104 = .ok (.if_icmp .ne 7, 3) := by decide +kernel
theorem d_Md_one_107 : decode b_Md_one 107 = .ok (.iconst 3, 1) := by decide +kernel
theorem d_Md_one_108 : decode b_Md_one 108 = .ok (.goto 4, 3) := by decide +kernel
theorem d_Md_one_111 : decode b_Md_one 111 = .ok (.iload_n 2, 1) := by decide +kernel
theorem d_Md_one_112 : decode b_Md_one 112 = .ok (.istore_n 2, 1) := by decide +kernel
theorem d_Md_one_113 : decode b_Md_one 113 = .ok (.iload_n 2, 1) := by decide +kernel
theorem d_Md_one_114 : decode b_Md_one 114 = .ok (.ifCond .ne 5, 3) := by decide +kernel
theorem d_Md_one_117 : decode b_Md_one 117 = .ok (.iload_n 1, 1) := by decide +kernel
theorem d_Md_one_118 : decode b_Md_one 118 = .ok (.ireturn, 1) := by decide +kernel
theorem d_Md_one_119 : decode b_Md_one 119 = .ok (.aload_n 0, 1) := by decide +kernel
theorem d_Md_one_120 : decode b_Md_one 120 = .ok (.getfield 40, 3) := by decide +kernel
theorem d_Md_one_123 : decode b_Md_one 123 = .ok (.iload_n 1, 1) := by decide +kernel
theorem d_Md_one_124 : decode b_Md_one 124 = .ok (.iconst 0, 1) := by decide +kernel
theorem d_Md_one_125 : decode b_Md_one 125 = .ok (.bastore, 1) := by decide +kernel
theorem d_Md_one_126 : decode b_Md_one 126 = .ok (.aload_n 0, 1) := by decide +kernel
theorem d_Md_one_127 : decode b_Md_one 127 = .ok (.getfield 56, 3) := by decide +kernel
theorem d_Md_one_130 : decode b_Md_one 130 = .ok (.iconst 4, 1) := by decide +kernel
theorem d_Md_one_131 : decode b_Md_one 131 = .ok (.iload_n 1, 1) := by decide +kernel
theorem d_Md_one_132 : decode b_Md_one 132 = .ok (.imul, 1) := by decide +kernel
theorem d_Md_one_133 : decode b_Md_one 133 = .ok (.iload_n 2, 1) := by decide +kernel
theorem d_Md_one_134 : decode b_Md_one 134 = .ok (.iadd, 1) := by decide +kernel
theorem d_Md_one_135 : decode b_Md_one 135 = .ok (.iconst 1, 1) := by decide +kernel
theorem d_Md_one_136 : decode b_Md_one 136 = .ok (.isub, 1) := by decide +kernel
theorem d_Md_one_137 : decode b_Md_one 137 = .ok (.dup2, 1) := by decide +kernel
theorem d_Md_one_138 : decode b_Md_one 138 = .ok (.iaload, 1) := by decide +kernel
theorem d_Md_one_139 : decode b_Md_one 139 = .ok (.iconst 1, 1) := by decide +kernel
theorem d_Md_one_140 : decode b_Md_one 140 = .ok (.iadd, 1) := by decide +kernel
theorem d_Md_one_141 : decode b_Md_one 141 = .ok (.iastore, 1) := by decide +kernel
theorem d_Md_one_142 : decode b_Md_one 142 = .ok (.aload_n 0, 1) := by decide +kernel
theorem d_Md_one_143 : decode b_Md_one 143 = .ok (.getfield 111, 3) := by decide +kernel
theorem d_Md_one_146 : decode b_Md_one 146 = .ok (.aload_n 0, 1) := by decide +kernel
theorem d_Md_one_147 : decode b_Md_one 147 = .ok (.getfield 44, 3) := by decide +kernel
theorem d_Md_one_150 : decode b_Md_one 150 = .ok (.iload_n 1, 1) := by decide +kernel
theorem d_Md_one_151 : decode b_Md_one 151 = .ok (.iaload, 1) := by decide +kernel
theorem d_Md_one_152 : decode b_Md_one 152 = .ok (.isub, 1) := by decide +kernel
theorem d_Md_one_153 : decode b_Md_one 153 = .ok (.istore_n 3, 1) := by decide +kernel
theorem d_Md_one_154 : decode b_Md_one 154 = .ok (.iload_n 2, 1) := by decide +kernel
theorem d_Md_one_155 : decode b_Md_one 155 = .ok (.iconst 1, 1) := by decide +kernel
theorem d_Md_one_156 : decode b_Md_one 156 = .ok (.if_icmp .ne 28, 3) := by decide +kernel
theorem d_Md_one_159 : decode b_Md_one 159 = .ok (.iload_n 3, 1) := by decide +kernel
theorem d_Md_one_160 : decode b_Md_one 160 = .ok (.aload_n 0, 1) := by decide +kernel
theorem d_Md_one_161 : decode b_Md_one 161 = .ok (.getfield 56, 3) := by decide +kernel
theorem d_Md_one_164 : decode b_Md_one 164 = .ok (.iconst 4, 1) := by decide +kernel
theorem d_Md_one_165 : decode b_Md_one 165 = .ok (.iload_n 1, 1) := by decide +kernel
theorem d_Md_one_166 : decode b_Md_one 166 = .ok (.imul, 1) := by decide +kernel
theorem d_Md_one_167 : decode b_Md_one 167 = .ok (.iconst 3, 1) := by decide +kernel
theorem d_Md_one_168 : decode b_Md_one 168 = .ok (.iadd, 1) := by decide +kernel
theorem d_Md_one_169 : decode b_Md_one 169 = .ok (.iaload, 1) := by decide +kernel
theorem d_Md_one_170 : decode b_Md_one 170 = .ok (.if_icmp .le 14, 3) := by decide +kernel
theorem d_Md_one_173 : decode b_Md_one 173 = .ok (.aload_n 0, 1) := by decide +kernel
theorem d_Md_one_174 : decode b_Md_one 174 = .ok (.getfield 56, 3) := by decide +kernel
theorem d_Md_one_177 : decode b_Md_one 177 = .ok (.iconst 4, 1) := by decide +kernel
theorem d_Md_one_178 : decode b_Md_one 178 = .ok (.iload_n 1, 1) := by decide +kernel
theorem d_Md_one_179 : decode b_Md_one 179 = .ok (.imul, 1) := by decide +kernel
theorem d_Md_one_180 : decode b_Md_one 180 = .ok (.iconst 3, 1) := by decide +kernel
theorem d_Md_one_181 : decode b_Md_one 181 = .ok (.iadd, 1) := by decide +kernel
theorem d_Md_one_182 : decode b_Md_one 182 = .ok (.iload_n 3, 1) := by decide +kernel
theorem d_Md_one_183 : decode b_Md_one 183 = .ok (.iastore, 1) := by decide +kernel
theorem d_Md_one_184 : decode b_Md_one 184 = .ok (.iload_n 1, 1) := by decide +kernel
theorem d_Md_one_185 : decode b_Md_one 185 = .ok (.bipush 100, 2) := by decide +kernel
theorem d_Md_one_187 : decode b_Md_one 187 = .ok (.iload_n 2, 1) := by decide +kernel
theorem d_Md_one_188 : decode b_Md_one 188 = .ok (.imul, 1) := by decide +kernel
theorem d_Md_one_189 : decode b_Md_one 189 = .ok (.iadd, 1) := by decide +kernel
theorem d_Md_one_190 : decode b_Md_one 190 = .ok (.ireturn, 1) := by decide +kernel
theorem d_Md_release_0 : decode b_Md_release 0 = .ok (.aload_n 0, 1) := by decide +kernel
theorem d_Md_release_1 : decode b_Md_release 1 = .ok (.getfield 40, 3) := by decide +kernel
theorem d_Md_release_4 : decode b_Md_release 4 = .ok (.iload_n 1, 1) := by decide +kernel
theorem d_Md_release_5 : decode b_Md_release 5 = .ok (.iconst 1, 1) := by decide +kernel
theorem d_Md_release_6 : decode b_Md_release 6 = .ok (.bastore, 1) := by decide +kernel
theorem d_Md_release_7 : decode b_Md_release 7 = .ok (.aload_n 0, 1) := by decide +kernel
theorem d_Md_release_8 : decode b_Md_release 8 = .ok (.getfield 44, 3) := by decide +kernel
theorem d_Md_release_11 : decode b_Md_release 11 = .ok (.iload_n 1, 1) := by decide +kernel
theorem d_Md_release_12 : decode b_Md_release 12 = .ok (.aload_n 0, 1) := by decide +kernel
theorem d_Md_release_13 : decode b_Md_release 13 = .ok (.getfield 111, 3) := by decide +kernel
theorem d_Md_release_16 : decode b_Md_release 16 = .ok (.iastore, 1) := by decide +kernel
theorem d_Md_release_17 : decode b_Md_release 17 = .ok (.aload_n 0, 1) := by decide +kernel
theorem d_Md_release_18 : decode b_Md_release 18 = .ok (.getfield 47, 3) := by decide +kernel
theorem d_Md_release_21 : decode b_Md_release 21 = .ok (.iload_n 1, 1) := by decide +kernel
theorem d_Md_release_22 : decode b_Md_release 22 = .ok (.iconst 0, 1) := by decide +kernel
theorem d_Md_release_23 : decode b_Md_release 23 = .ok (.iastore, 1) := by decide +kernel
theorem d_Md_release_24 : decode b_Md_release 24 = .ok (.aload_n 0, 1) := by decide +kernel
theorem d_Md_release_25 : decode b_Md_release 25 = .ok (.getfield 50, 3) := by decide +kernel
theorem d_Md_release_28 : decode b_Md_release 28 = .ok (.iload_n 1, 1) := by decide +kernel
theorem d_Md_release_29 : decode b_Md_release 29 = .ok (.aload_n 0, 1) := by decide +kernel
theorem d_Md_release_30 : decode b_Md_release 30 = .ok (.getfield 22, 3) := by decide +kernel
theorem d_Md_release_33 : decode b_Md_release 33 = .ok (.iload_n 1, 1) := by decide +kernel
theorem d_Md_release_34 : decode b_Md_release 34 = .ok (.iaload, 1) := by decide +kernel
theorem d_Md_release_35 : decode b_Md_release 35 = .ok (.iastore, 1) := by decide +kernel
theorem d_Md_release_36 : decode b_Md_release 36 = .ok (.iconst 0, 1) := by decide +kernel
theorem d_Md_release_37 : decode b_Md_release 37 = .ok (.istore_n 2, 1) := by decide +kernel
theorem d_Md_release_38 : decode b_Md_release 38 = .ok (.iload_n 2, 1) := by decide +kernel
theorem d_Md_release_39 : decode b_Md_release 39 = .ok (.iconst 4, 1) := by decide +kernel
theorem d_Md_release_40 : decode b_Md_release 40 = .ok (.if_icmp .ge 20, 3) := by decide +kernel
theorem d_Md_release_43 : decode b_Md_release 43 = .ok (.aload_n 0, 1) := by decide +kernel
theorem d_Md_release_44 : decode b_Md_release 44 = .ok (.getfield 53, 3) := by decide +kernel
theorem d_Md_release_47 : decode b_Md_release 47 = .ok (.iconst 4, 1) := by decide +kernel
theorem d_Md_release_48 : decode b_Md_release 48 = .ok (.iload_n 1, 1) := by decide +kernel
theorem d_Md_release_49 : decode b_Md_release 49 = .ok (.imul, 1) := by decide +kernel
theorem d_Md_release_50 : decode b_Md_release 50 = .ok (.iload_n 2, 1) := by decide +kernel
theorem d_Md_release_51 : decode b_Md_release 51 = .ok (.iadd, 1) := by decide +kernel
theorem d_Md_release_52 : decode b_Md_release 52 = .ok (.iconst 0, 1) := by decide +kernel
theorem d_Md_release_53 : decode b_Md_release 53 = .ok (.iastore, 1) := by decide +kernel
theorem d_Md_release_54 : decode b_Md_release 54 = .ok (.iinc 2 1, 3) := by decide +kernel
theorem d_Md_release_57 : decode b_Md_release 57 = .ok (.goto (-19), 3) := by decide +kernel
theorem d_Md_release_60 : decode b_Md_release 60 = .ok (.return_, 1) := by decide +kernel
theorem d_Md_instruct_0 : decode b_Md_instruct 0 = .ok (.aload_n 0, 1) := by decide +kernel
theorem d_Md_instruct_1 : decode b_Md_instruct 1 = .ok (.getfield 34, 3) := by decide +kernel
theorem d_Md_instruct_4 : decode b_Md_instruct 4 = .ok (.aload_n 0, 1) := by decide +kernel
theorem d_Md_instruct_5 : decode b_Md_instruct 5 = .ok (.getfield 50, 3) := by decide +kernel
theorem d_Md_instruct_8 : decode b_Md_instruct 8 = .ok (.iload_n 1, 1) := by decide +kernel
theorem d_Md_instruct_9 : decode b_Md_instruct 9 = .ok (.iaload, 1) := by decide +kernel
theorem d_Md_instruct_10 : decode b_Md_instruct 10 = .ok (.iaload, 1) := by decide +kernel
theorem d_Md_instruct_11 : decode b_Md_instruct 11 = .ok (.istore_n 2, 1) := by decide +kernel
theorem d_Md_instruct_12 : decode b_Md_instruct 12 = .ok (.aload_n 0, 1) := by decide +kernel
theorem d_Md_instruct_13 : decode b_Md_instruct 13 = .ok (.getfield 50, 3) := by decide +kernel
theorem d_Md_instruct_16 : decode b_Md_instruct 16 = .ok (.iload_n 1, 1) := by decide +kernel
theorem d_Md_instruct_17 : decode b_Md_instruct 17 = .ok (.aload_n 0, 1) := by decide +kernel
theorem d_Md_instruct_18 : decode b_Md_instruct 18 = .ok (.getfield 50, 3) := by decide +kernel
theorem d_Md_instruct_21 : decode b_Md_instruct 21 = .ok (.iload_n 1, 1) := by decide +kernel
theorem d_Md_instruct_22 : decode b_Md_instruct 22 = .ok (.iaload, 1) := by decide +kernel
theorem d_Md_instruct_23 : decode b_Md_instruct 23 = .ok (.iconst 1, 1) := by decide +kernel
theorem d_Md_instruct_24 : decode b_Md_instruct 24 = .ok (.iadd, 1) := by decide +kernel
theorem d_Md_instruct_25 : decode b_Md_instruct 25 = .ok (.bipush 64, 2) := by decide +kernel
theorem d_Md_instruct_27 : decode b_Md_instruct 27 = .ok (.irem, 1) := by decide +kernel
theorem d_Md_instruct_28 : decode b_Md_instruct 28 = .ok (.iastore, 1) := by decide +kernel
theorem d_Md_instruct_29 : decode b_Md_instruct 29 = .ok (.iconst 4, 1) := by decide +kernel
theorem d_Md_instruct_30 : decode b_Md_instruct 30 = .ok (.iload_n 1, 1) := by decide +kernel
theorem d_Md_instruct_31 : decode b_Md_instruct 31 = .ok (.imul, 1) := by decide +kernel
theorem d_Md_instruct_32 : decode b_Md_instruct 32 = .ok (.iload_n 2, 1) := by decide +kernel
theorem d_Md_instruct_33 : decode b_Md_instruct 33 = .ok (.iconst 4, 1) := by decide +kernel
theorem d_Md_instruct_34 : decode b_Md_instruct 34 = .ok (.ishr, 1) := by decide +kernel
theorem d_Md_instruct_35 : decode b_Md_instruct 35 = .ok (.iconst 3, 1) := by decide +kernel
theorem d_Md_instruct_36 : decode b_Md_instruct 36 = .ok (.iand, 1) := by decide +kernel
theorem d_Md_instruct_37 : decode b_Md_instruct 37 = .ok (.iadd, 1) := by decide +kernel
theorem d_Md_instruct_38 : decode b_Md_instruct 38 = .ok (.istore_n 3, 1) := by decide +kernel
theorem d_Md_instruct_39 : decode b_Md_instruct 39 = .ok (.iconst 4, 1) := by decide +kernel
theorem d_Md_instruct_40 : decode b_Md_instruct 40 = .ok (.iload_n 1, 1) := by decide +kernel
theorem d_Md_instruct_41 : decode b_Md_instruct 41 = .ok (.imul, 1) := by decide +kernel
theorem d_Md_instruct_42 : decode b_Md_instruct 42 = .ok (.iload_n 2, 1) := by decide +kernel
theorem d_Md_instruct_43 : decode b_Md_instruct 43 = .ok (.bipush 6, 2) := by decide +kernel
theorem d_Md_instruct_45 : decode b_Md_instruct 45 = .ok (.ishr, 1) := by decide +kernel
theorem d_Md_instruct_46 : decode b_Md_instruct 46 = .ok (.iconst 3, 1) := by decide +kernel
theorem d_Md_instruct_47 : decode b_Md_instruct 47 = .ok (.iand, 1) := by decide +kernel
theorem d_Md_instruct_48 : decode b_Md_instruct 48 = .ok (.iadd, 1) := by decide +kernel
theorem d_Md_instruct_49 : decode b_Md_instruct 49 = .ok (.istore 4, 2) := by decide +kernel
theorem d_Md_instruct_51 : decode b_Md_instruct 51 = .ok (.iload_n 2, 1) := by decide +kernel
theorem d_Md_instruct_52 : decode b_Md_instruct 52 = .ok (.bipush 8, 2) := by decide +kernel
theorem d_Md_instruct_54 : decode b_Md_instruct 54 = .ok (.ishr, 1) := by decide +kernel
theorem d_Md_instruct_55 : decode b_Md_instruct 55 = .ok (.istore 5, 2) := by decide +kernel
theorem d_Md_instruct_57 : decode b_Md_instruct 57 = .ok (.iload_n 2, 1) := by decide +kernel
theorem d_Md_instruct_58 : decode b_Md_instruct 58 = .ok (.bipush 15, 2) := by decide +kernel
theorem d_Md_instruct_60 : decode b_Md_instruct 60 = .ok (.iand, 1) := by decide +kernel
theorem d_Md_instruct_61 : decode b_Md_instruct 61 = .ok (.tableswitch 275 0 10 #[59, 61, 71, 93, 115, 137, 160, 183, 214, 245, 258], 59) := by decide +kernel
theorem d_Md_instruct_120 : decode b_Md_instruct 120 = .ok (.iconst 1, 1) := by decide +kernel
theorem d_Md_instruct_121 : decode b_Md_instruct 121 = .ok (.ireturn, 1) := by decide +kernel
theorem d_Md_instruct_122 : decode b_Md_instruct 122 = .ok (.aload_n 0, 1) := by decide +kernel
theorem d_Md_instruct_123 : decode b_Md_instruct 123 = .ok (.getfield 53, 3) := by decide +kernel
theorem d_Md_instruct_126 : decode b_Md_instruct 126 = .ok (.iload_n 3, 1) := by decide +kernel
theorem d_Md_instruct_127 : decode b_Md_instruct 127 = .ok (.iload 5, 2) := by decide +kernel
theorem d_Md_instruct_129 : decode b_Md_instruct 129 = .ok (.iastore, 1) := by decide +kernel
theorem d_Md_instruct_130 : decode b_Md_instruct 130 = .ok (.iconst 0, 1) := by decide +kernel
theorem d_Md_instruct_131 : decode b_Md_instruct 131 = .ok (.ireturn, 1) := by decide +kernel
theorem d_Md_instruct_132 : decode b_Md_instruct 132 = .ok (.aload_n 0, 1) := by decide +kernel
theorem d_Md_instruct_133 : decode b_Md_instruct 133 = .ok (.getfield 53, 3) := by decide +kernel
theorem d_Md_instruct_136 : decode b_Md_instruct 136 = .ok (.iload_n 3, 1) := by decide +kernel
theorem d_Md_instruct_137 : decode b_Md_instruct 137 = .ok (.aload_n 0, 1) := by decide +kernel
theorem d_Md_instruct_138 : decode b_Md_instruct 138 = .ok (.getfield 53, 3) := by decide +kernel
theorem d_Md_instruct_141 : decode b_Md_instruct 141 = .ok (.iload_n 3, 1) := by decide +kernel
theorem d_Md_instruct_142 : decode b_Md_instruct 142 = .ok (.iaload, 1) := by decide +kernel
theorem d_Md_instruct_143 : decode b_Md_instruct 143 = .ok (.aload_n 0, 1) := by decide +kernel
theorem d_Md_instruct_144 : decode b_Md_instruct 144 = .ok (.getfield 53, 3) := by decide +kernel
theorem d_Md_instruct_147 : decode b_Md_instruct 147 = .ok (.iload 4, 2) := by decide +kernel
theorem d_Md_instruct_149 : decode b_Md_instruct 149 = .ok (.iaload, 1) := by decide +kernel
theorem d_Md_instruct_150 : decode b_Md_instruct 150 = .ok (.iadd, 1) := by decide +kernel
theorem d_Md_instruct_151 : decode b_Md_instruct 151 = .ok (.iastore, 1) := by decide +kernel
theorem d_Md_instruct_152 : decode b_Md_instruct 152 = .ok (.iconst 0, 1) := by decide +kernel
theorem d_Md_instruct_153 : decode b_Md_instruct 153 = .ok (.ireturn, 1) := by decide +kernel
theorem d_Md_instruct_154 : decode b_Md_instruct 154 = .ok (.aload_n 0, 1) := by decide +kernel
theorem d_Md_instruct_155 : decode b_Md_instruct 155 = .ok (.getfield 53, 3) := by decide +kernel
theorem d_Md_instruct_158 : decode b_Md_instruct 158 = .ok (.iload_n 3, 1) := by decide +kernel
theorem d_Md_instruct_159 : decode b_Md_instruct 159 = .ok (.aload_n 0, 1) := by decide +kernel
theorem d_Md_instruct_160 : decode b_Md_instruct 160 = .ok (.getfield 53, 3) := by decide +kernel
theorem d_Md_instruct_163 : decode b_Md_instruct 163 = .ok (.iload_n 3, 1) := by decide +kernel
theorem d_Md_instruct_164 : decode b_Md_instruct 164 = .ok (.iaload, 1) := by decide +kernel
theorem d_Md_instruct_165 : decode b_Md_instruct 165 = .ok (.aload_n 0, 1) := by decide +kernel
theorem d_Md_instruct_166 : decode b_Md_instruct 166 = .ok (.getfield 53, 3) := by decide +kernel
theorem d_Md_instruct_169 : decode b_Md_instruct 169 = .ok (.iload 4, 2) := by decide +kernel
theorem d_Md_instruct_171 : decode b_Md_instruct 171 = .ok (.iaload, 1) := by decide +kernel
theorem d_Md_instruct_172 : decode b_Md_instruct 172 = .ok (.isub, 1) := by decide +kernel
theorem d_Md_instruct_173 : decode b_Md_instruct 173 = .ok (.iastore, 1) := by decide +kernel
theorem d_Md_instruct_174 : decode b_Md_instruct 174 = .ok (.iconst 0, 1) := by decide +kernel
theorem d_Md_instruct_175 : decode b_Md_instruct 175 = .ok (.ireturn, 1) := by decide +kernel
theorem d_Md_instruct_176 : decode b_Md_instruct 176 = .ok (.aload_n 0, 1) := by decide +kernel
theorem d_Md_instruct_177 : decode b_Md_instruct 177 = .ok (.getfield 53, 3) := by decide +kernel
theorem d_Md_instruct_180 : decode b_Md_instruct 180 = .ok (.iload_n 3, 1) := by decide +kernel
theorem d_Md_instruct_181 : decode b_Md_instruct 181 = .ok (.aload_n 0, 1) := by decide +kernel
theorem d_Md_instruct_182 : decode b_Md_instruct 182 = .ok (.getfield 53, 3) := by decide +kernel
theorem d_Md_instruct_185 : decode b_Md_instruct 185 = .ok (.iload_n 3, 1) := by decide +kernel
theorem d_Md_instruct_186 : decode b_Md_instruct 186 = .ok (.iaload, 1) := by decide +kernel
theorem d_Md_instruct_187 : decode b_Md_instruct 187 = .ok (.aload_n 0, 1) := by decide +kernel
theorem d_Md_instruct_188 : decode b_Md_instruct 188 = .ok (.getfield 53, 3) := by decide +kernel
theorem d_Md_instruct_191 : decode b_Md_instruct 191 = .ok (.iload 4, 2) := by decide +kernel
theorem d_Md_instruct_193 : decode b_Md_instruct 193 = .ok (.iaload, 1) := by decide +kernel
theorem d_Md_instruct_194 : decode b_Md_instruct 194 = .ok (.imul, 1) := by decide +kernel
theorem d_Md_instruct_195 : decode b_Md_instruct 195 = .ok (.iastore, 1) := by decide +kernel
theorem d_Md_instruct_196 : decode b_Md_instruct 196 = .ok (.iconst 0, 1) := by decide +kernel
theorem d_Md_instruct_197 : decode b_Md_instruct 197 = .ok (.ireturn, 1) := by decide +kernel
theorem d_Md_instruct_198 : decode b_Md_instruct 198 = .ok (.aload_n 0, 1) := by decide +kernel
theorem d_Md_instruct_199 : decode b_Md_instruct 199 = .ok (.getfield 53, 3) := by decide +kernel
theorem d_Md_instruct_202 : decode b_Md_instruct 202 = .ok (.iload_n 3, 1) := by decide +kernel
theorem d_Md_instruct_203 : decode b_Md_instruct 203 = .ok (.aload_n 0, 1) := by decide +kernel
theorem d_Md_instruct_204 : decode b_Md_instruct 204 = .ok (.getfield 37, 3) := by decide +kernel
theorem d_Md_instruct_207 : decode b_Md_instruct 207 = .ok (.aload_n 0, 1) := by decide +kernel
theorem d_Md_instruct_208 : decode b_Md_instruct 208 = .ok (.getfield 53, 3) := by decide +kernel
theorem d_Md_instruct_211 : decode b_Md_instruct 211 = .ok (.iload 4, 2) := by decide +kernel
theorem d_Md_instruct_213 : decode b_Md_instruct 213 = .ok (.iaload, 1) := by decide +kernel
theorem d_Md_instruct_214 : decode b_Md_instruct 214 = .ok (.bipush 15, 2) := by decide +kernel
theorem d_Md_instruct_216 : decode b_Md_instruct 216 = .ok (.iand, 1) := by decide +kernel
theorem d_Md_instruct_217 : decode b_Md_instruct 217 = .ok (.iaload, 1) := by decide +kernel
theorem d_Md_instruct_218 : decode b_Md_instruct 218 = .ok (.iastore, 1) := by decide +kernel
theorem d_Md_instruct_219 : decode b_Md_instruct 219 = .ok (.iconst 0, 1) := by decide +kernel
theorem d_Md_instruct_220 : decode b_Md_instruct 220 = .ok (.ireturn, 1) := by decide +kernel
theorem d_Md_instruct_221 : decode b_Md_instruct 221 = .ok (.aload_n 0, 1) := by decide +kernel
theorem d_Md_instruct_222 : decode b_Md_instruct 222 = .ok (.getfield 37, 3) := by decide +kernel
theorem d_Md_instruct_225 : decode b_Md_instruct 225 = .ok (.aload_n 0, 1) := by decide +kernel
theorem d_Md_instruct_226 : decode b_Md_instruct 226 = .ok (.getfield 53, 3) := by decide +kernel
theorem d_Md_instruct_229 : decode b_Md_instruct 229 = .ok (.iload 4, 2) := by decide +kernel
theorem d_Md_instruct_231 : decode b_Md_instruct 231 = .ok (.iaload, 1) := by decide +kernel
theorem d_Md_instruct_232 : decode b_Md_instruct 232 = .ok (.bipush 15, 2) := by decide +kernel
theorem d_Md_instruct_234 : decode b_Md_instruct 234 = .ok (.iand, 1) := by decide +kernel
theorem d_Md_instruct_235 : decode b_Md_instruct 235 = .ok (.aload_n 0, 1) := by decide +kernel
theorem d_Md_instruct_236 : decode b_Md_instruct 236 = .ok (.getfield 53, 3) := by decide +kernel
theorem d_Md_instruct_239 : decode b_Md_instruct 239 = .ok (.iload_n 3, 1) := by decide +kernel
theorem d_Md_instruct_240 : decode b_Md_instruct 240 = .ok (.iaload, 1) := by decide +kernel
theorem d_Md_instruct_241 : decode b_Md_instruct 241 = .ok (.iastore, 1) := by decide +kernel
theorem d_Md_instruct_242 : decode b_Md_instruct 242 = .ok (.iconst 0, 1) := by decide +kernel
theorem d_Md_instruct_243 : decode b_Md_instruct 243 = .ok (.ireturn, 1) := by decide +kernel
theorem d_Md_instruct_244 : decode b_Md_instruct 244 = .ok (.aload_n 0, 1) := by decide +kernel
theorem d_Md_instruct_245 : decode b_Md_instruct 245 = .ok (.getfield 50, 3) := by decide +kernel
theorem d_Md_instruct_248 : decode b_Md_instruct 248 = .ok (.iload_n 1, 1) := by decide +kernel
theorem d_Md_instruct_249 : decode b_Md_instruct 249 = .ok (.aload_n 0, 1) := by decide +kernel
theorem d_Md_instruct_250 : decode b_Md_instruct 250 = .ok (.getfield 53, 3) := by decide +kernel
theorem d_Md_instruct_253 : decode b_Md_instruct 253 = .ok (.iload_n 3, 1) := by decide +kernel
theorem d_Md_instruct_254 : decode b_Md_instruct 254 = .ok (.iaload, 1) := by decide +kernel
theorem d_Md_instruct_255 : decode b_Md_instruct 255 = .ok (.ifCond .ne 11, 3) := by decide +kernel
theorem d_Md_instruct_258 : decode b_Md_instruct 258 = .ok (.iload 5, 2) := by decide +kernel
theorem d_Md_instruct_260 : decode b_Md_instruct 260 = .ok (.bipush 63, 2) := by decide +kernel
theorem d_Md_instruct_262 : decode b_Md_instruct 262 = .ok (.iand, 1) := by decide +kernel
theorem d_Md_instruct_263 : decode b_Md_instruct 263 = .ok (.goto 9, 3) := by decide +kernel
theorem d_Md_instruct_266 : decode b_Md_instruct 266 = .ok (.aload_n 0, 1) := by decide +kernel
theorem d_Md_instruct_267 : decode b_Md_instruct 267 = .ok (.getfield 50, 3) := by decide +kernel
theorem d_Md_instruct_270 : decode b_Md_instruct 270 = .ok (.iload_n 1, 1) := by decide +kernel
theorem d_Md_instruct_271 : decode b_Md_instruct 271 = .ok (.iaload, 1) := by decide +kernel
theorem d_Md_instruct_272 : decode b_Md_instruct 272 = .ok (.iastore, 1) := by decide +kernel
theorem d_Md_instruct_273 : decode b_Md_instruct 273 = .ok (.iconst 0, 1) := by decide +kernel
theorem d_Md_instruct_274 : decode b_Md_instruct 274 = .ok (.ireturn, 1) := by decide +kernel
theorem d_Md_instruct_275 : decode b_Md_instruct 275 = .ok (.aload_n 0, 1) := by decide +kernel
theorem d_Md_instruct_276 : decode b_Md_instruct 276 = .ok (.getfield 50, 3) := by decide +kernel
theorem d_Md_instruct_279 : decode b_Md_instruct 279 = .ok (.iload_n 1, 1) := by decide +kernel
theorem d_Md_instruct_280 : decode b_Md_instruct 280 = .ok (.aload_n 0, 1) := by decide +kernel
theorem d_Md_instruct_281 : decode b_Md_instruct 281 = .ok (.getfield 53, 3) := by decide +kernel
theorem d_Md_instruct_284 : decode b_Md_instruct 284 = .ok (.iload_n 3, 1) := by decide +kernel
theorem d_Md_instruct_285 : decode b_Md_instruct 285 = .ok (.iaload, 1) := by decide +kernel
theorem d_Md_instruct_286 : decode b_Md_instruct 286 = .ok (.ifCond .ge 11, 3) := by decide +kernel
theorem d_Md_instruct_289 : decode b_Md_instruct 289 = .ok (.iload 5, 2) := by decide +kernel
theorem d_Md_instruct_291 : decode b_Md_instruct 291 = .ok (.bipush 63, 2) := by decide +kernel
theorem d_Md_instruct_293 : decode b_Md_instruct 293 = .ok (.iand, 1) := by decide +kernel
theorem d_Md_instruct_294 : decode b_Md_instruct 294 = .ok (.goto 9, 3) := by decide +kernel
theorem d_Md_instruct_297 : decode b_Md_instruct 297 = .ok (.aload_n 0, 1) := by decide +kernel
theorem d_Md_instruct_298 : decode b_Md_instruct 298 = .ok (.getfield 50, 3) := by decide +kernel
theorem d_Md_instruct_301 : decode b_Md_instruct 301 = .ok (.iload_n 1, 1) := by decide +kernel
theorem d_Md_instruct_302 : decode b_Md_instruct 302 = .ok (.iaload, 1) := by decide +kernel
theorem d_Md_instruct_303 : decode b_Md_instruct 303 = .ok (.iastore, 1) := by decide +kernel
theorem d_Md_instruct_304 : decode b_Md_instruct 304 = .ok (.iconst 0, 1) := by decide +kernel
theorem d_Md_instruct_305 : decode b_Md_instruct 305 = .ok (.ireturn, 1) := by decide +kernel
theorem d_Md_instruct_306 : decode b_Md_instruct 306 = .ok (.aload_n 0, 1) := by decide +kernel
theorem d_Md_instruct_307 : decode b_Md_instruct 307 = .ok (.getfield 50, 3) := by decide +kernel
theorem d_Md_instruct_310 : decode b_Md_instruct 310 = .ok (.iload_n 1, 1) := by decide +kernel
theorem d_Md_instruct_311 : decode b_Md_instruct 311 = .ok (.iload 5, 2) := by decide +kernel
theorem d_Md_instruct_313 : decode b_Md_instruct 313 = .ok (.bipush 63, 2) := by decide +kernel
theorem d_Md_instruct_315 : decode b_Md_instruct 315 = .ok (.iand, 1) := by decide +kernel
theorem d_Md_instruct_316 : decode b_Md_instruct 316 = .ok (.iastore, 1) := by decide +kernel
theorem d_Md_instruct_317 : decode b_Md_instruct 317 = .ok (.iconst 0, 1) := by decide +kernel
theorem d_Md_instruct_318 : decode b_Md_instruct 318 = .ok (.ireturn, 1) := by decide +kernel
theorem d_Md_instruct_319 : decode b_Md_instruct 319 = .ok (.aload_n 0, 1) := by decide +kernel
theorem d_Md_instruct_320 : decode b_Md_instruct 320 = .ok (.getfield 53, 3) := by decide +kernel
theorem d_Md_instruct_323 : decode b_Md_instruct 323 = .ok (.iload_n 3, 1) := by decide +kernel
theorem d_Md_instruct_324 : decode b_Md_instruct 324 = .ok (.aload_n 0, 1) := by decide +kernel
theorem d_Md_instruct_325 : decode b_Md_instruct 325 = .ok (.getfield 53, 3) := by decide +kernel
theorem d_Md_instruct_328 : decode b_Md_instruct 328 = .ok (.iload_n 3, 1) := by decide +kernel
theorem d_Md_instruct_329 : decode b_Md_instruct 329 = .ok (.iaload, 1) := by decide +kernel
theorem d_Md_instruct_330 : decode b_Md_instruct 330 = .ok (.iload 5, 2) := by decide +kernel
theorem d_Md_instruct_332 : decode b_Md_instruct 332 = .ok (.iadd, 1) := by decide +kernel
theorem d_Md_instruct_333 : decode b_Md_instruct 333 = .ok (.iastore, 1) := by decide +kernel
theorem d_Md_instruct_334 : decode b_Md_instruct 334 = .ok (.iconst 0, 1) := by decide +kernel
theorem d_Md_instruct_335 : decode b_Md_instruct 335 = .ok (.ireturn, 1) := by decide +kernel
theorem d_Md_instruct_336 : decode b_Md_instruct 336 = .ok (.iconst 2, 1) := by decide +kernel
theorem d_Md_instruct_337 : decode b_Md_instruct 337 = .ok (.ireturn, 1) := by decide +kernel
theorem d_Md_ticks_0 : decode b_Md_ticks 0 = .ok (.aload_n 0, 1) := by decide +kernel
theorem d_Md_ticks_1 : decode b_Md_ticks 1 = .ok (.aload_n 0, 1) := by decide +kernel
theorem d_Md_ticks_2 : decode b_Md_ticks 2 = .ok (.getfield 66, 3) := by decide +kernel
theorem d_Md_ticks_5 : decode b_Md_ticks 5 = .ok (.ifCond .ne 7, 3) := by decide +kernel
theorem d_Md_ticks_8 : decode b_Md_ticks 8 = .ok (.iconst 1, 1) := by decide +kernel
theorem d_Md_ticks_9 : decode b_Md_ticks 9 = .ok (.goto 20, 3) := by decide +kernel
theorem d_Md_ticks_12 : decode b_Md_ticks 12 = .ok (.iload_n 1, 1) := by decide +kernel
theorem d_Md_ticks_13 : decode b_Md_ticks 13 = .ok (.iconst 1, 1) := by decide +kernel
theorem d_Md_ticks_14 : decode b_Md_ticks 14 = .ok (.if_icmp .lt 10, 3) := by decide +kernel
theorem d_Md_ticks_17 : decode b_Md_ticks 17 = .ok (.iload_n 1, 1) := by decide +kernel
theorem d_Md_ticks_18 : decode b_Md_ticks 18 = .ok (.sipush 500, 3) := by decide +kernel
theorem d_Md_ticks_21 : decode b_Md_ticks 21 = .ok (.if_icmp .le 7, 3) := by decide +kernel
theorem d_Md_ticks_24 : decode b_Md_ticks 24 = .ok (.iconst 2, 1) := by decide +kernel
theorem d_Md_ticks_25 : decode b_Md_ticks 25 = .ok (.goto 4, 3) := by decide +kernel
theorem d_Md_ticks_28 : decode b_Md_ticks 28 = .ok (.iconst 0, 1) := by decide +kernel
theorem d_Md_ticks_29 : decode b_Md_ticks 29 = .ok (.invokevirtual 70, 3) := by decide +kernel
theorem d_Md_ticks_32 : decode b_Md_ticks 32 = .ok (.ifCond .eq 5, 3) := by decide +kernel
theorem d_Md_ticks_35 : decode b_Md_ticks 35 = .ok (.iconst 0, 1) := by decide +kernel
theorem d_Md_ticks_36 : decode b_Md_ticks 36 = .ok (.ireturn, 1) := by decide +kernel
theorem d_Md_ticks_37 : decode b_Md_ticks 37 = .ok (.iconst 0, 1) := by decide +kernel
theorem d_Md_ticks_38 : decode b_Md_ticks 38 = .ok (.istore_n 2, 1) := by decide +kernel
theorem d_Md_ticks_39 : decode b_Md_ticks 39 = .ok (.iconst 0, 1) := by decide +kernel
theorem d_Md_ticks_40 : decode b_Md_ticks 40 = .ok (.istore_n 3, 1) := by decide +kernel
theorem d_Md_ticks_41 : decode b_Md_ticks 41 = .ok (.iload_n 3, 1) := by decide +kernel
theorem d_Md_ticks_42 : decode b_Md_ticks 42 = .ok (.iload_n 1, 1) := by decide +kernel
theorem d_Md_ticks_43 : decode b_Md_ticks 43 = .ok (.if_icmp .ge 24, 3) := by decide +kernel
theorem d_Md_ticks_46 : decode b_Md_ticks 46 = .ok (.aload_n 0, 1) := by decide +kernel
theorem d_Md_ticks_47 : decode b_Md_ticks 47 = .ok (.invokevirtual 121, 3) := by decide +kernel
theorem d_Md_ticks_50 : decode b_Md_ticks 50 = .ok (.ifCond .lt 9, 3) := by decide +kernel
theorem d_Md_ticks_53 : decode b_Md_ticks 53 = .ok (.iload_n 2, 1) := by decide +kernel
theorem d_Md_ticks_54 : decode b_Md_ticks 54 = .ok (.iconst 1, 1) := by decide +kernel
theorem d_Md_ticks_55 : decode b_Md_ticks 55 = .ok (.iadd, 1) := by decide +kernel
theorem d_Md_ticks_56 : decode b_Md_ticks 56 = .ok (.goto 4, 3) := by decide +kernel
theorem d_Md_ticks_59 : decode b_Md_ticks 59 = .ok (.iload_n 2, 1) := by decide +kernel
theorem d_Md_ticks_60 : decode b_Md_ticks 60 = .ok (.istore_n 2, 1) := by decide +kernel
theorem d_Md_ticks_61 : decode b_Md_ticks 61 = .ok (.iinc 3 1, 3) := by decide +kernel
theorem d_Md_ticks_64 : decode b_Md_ticks 64 = .ok (.goto (-23), 3) := by decide +kernel
theorem d_Md_ticks_67 : decode b_Md_ticks 67 = .ok (.iload_n 2, 1) := by decide +kernel
theorem d_Md_ticks_68 : decode b_Md_ticks 68 = .ok (.ireturn, 1) := by decide +kernel
theorem d_Md_time_0 : decode b_Md_time 0 = .ok (.aload_n 0, 1) := by decide +kernel
theorem d_Md_time_1 : decode b_Md_time 1 = .ok (.iconst 0, 1) := by decide +kernel
theorem d_Md_time_2 : decode b_Md_time 2 = .ok (.putfield 62, 3) := by decide +kernel
theorem d_Md_time_5 : decode b_Md_time 5 = .ok (.aload_n 0, 1) := by decide +kernel
theorem d_Md_time_6 : decode b_Md_time 6 = .ok (.getfield 111, 3) := by decide +kernel
theorem d_Md_time_9 : decode b_Md_time 9 = .ok (.ireturn, 1) := by decide +kernel
theorem d_Md_count_0 : decode b_Md_count 0 = .ok (.aload_n 0, 1) := by decide +kernel
theorem d_Md_count_1 : decode b_Md_count 1 = .ok (.iload_n 1, 1) := by decide +kernel
theorem d_Md_count_2 : decode b_Md_count 2 = .ok (.ifCond .lt 20, 3) := by decide +kernel
theorem d_Md_count_5 : decode b_Md_count 5 = .ok (.iload_n 1, 1) := by decide +kernel
theorem d_Md_count_6 : decode b_Md_count 6 = .ok (.aload_n 0, 1) := by decide +kernel
theorem d_Md_count_7 : decode b_Md_count 7 = .ok (.getfield 74, 3) := by decide +kernel
theorem d_Md_count_10 : decode b_Md_count 10 = .ok (.if_icmp .ge 12, 3) := by decide +kernel
theorem d_Md_count_13 : decode b_Md_count 13 = .ok (.iload_n 2, 1) := by decide +kernel
theorem d_Md_count_14 : decode b_Md_count 14 = .ok (.ifCond .lt 8, 3) := by decide +kernel
theorem d_Md_count_17 : decode b_Md_count 17 = .ok (.iload_n 2, 1) := by decide +kernel
theorem d_Md_count_18 : decode b_Md_count 18 = .ok (.iconst 3, 1) := by decide +kernel
theorem d_Md_count_19 : decode b_Md_count 19 = .ok (.if_icmp .le 7, 3) := by decide +kernel
theorem d_Md_count_22 : decode b_Md_count 22 = .ok (.iconst 1, 1) := by decide +kernel
theorem d_Md_count_23 : decode b_Md_count 23 = .ok (.goto 4, 3) := by decide +kernel
theorem d_Md_count_26 : decode b_Md_count 26 = .ok (.iconst 0, 1) := by decide +kernel
theorem d_Md_count_27 : decode b_Md_count 27 = .ok (.invokevirtual 70, 3) := by decide +kernel
theorem d_Md_count_30 : decode b_Md_count 30 = .ok (.ifCond .eq 7, 3) := by decide +kernel
theorem d_Md_count_33 : decode b_Md_count 33 = .ok (.iconst 0, 1) := by decide +kernel
theorem d_Md_count_34 : decode b_Md_count 34 = .ok (.goto 13, 3) := by decide +kernel
theorem d_Md_count_37 : decode b_Md_count 37 = .ok (.aload_n 0, 1) := by decide +kernel
theorem d_Md_count_38 : decode b_Md_count 38 = .ok (.getfield 56, 3) := by decide +kernel
theorem d_Md_count_41 : decode b_Md_count 41 = .ok (.iconst 4, 1) := by decide +kernel
theorem d_Md_count_42 : decode b_Md_count 42 = .ok (.iload_n 1, 1) := by decide +kernel
theorem d_Md_count_43 : decode b_Md_count 43 = .ok (.imul, 1) := by decide +kernel
theorem d_Md_count_44 : decode b_Md_count 44 = .ok (.iload_n 2, 1) := by decide +kernel
theorem d_Md_count_45 : decode b_Md_count 45 = .ok (.iadd, 1) := by decide +kernel
theorem d_Md_count_46 : decode b_Md_count 46 = .ok (.iaload, 1) := by decide +kernel
theorem d_Md_count_47 : decode b_Md_count 47 = .ok (.ireturn, 1) := by decide +kernel
theorem d_Md_shared_0 : decode b_Md_shared 0 = .ok (.aload_n 0, 1) := by decide +kernel
theorem d_Md_shared_1 : decode b_Md_shared 1 = .ok (.iload_n 1, 1) := by decide +kernel
theorem d_Md_shared_2 : decode b_Md_shared 2 = .ok (.ifCond .lt 9, 3) := by decide +kernel
theorem d_Md_shared_5 : decode b_Md_shared 5 = .ok (.iload_n 1, 1) := by decide +kernel
theorem d_Md_shared_6 : decode b_Md_shared 6 = .ok (.bipush 15, 2) := by decide +kernel
theorem d_Md_shared_8 : decode b_Md_shared 8 = .ok (.if_icmp .le 7, 3) := by decide +kernel
theorem d_Md_shared_11 : decode b_Md_shared 11 = .ok (.iconst 1, 1) := by decide +kernel
theorem d_Md_shared_12 : decode b_Md_shared 12 = .ok (.goto 4, 3) := by decide +kernel
theorem d_Md_shared_15 : decode b_Md_shared 15 = .ok (.iconst 0, 1) := by decide +kernel
theorem d_Md_shared_16 : decode b_Md_shared 16 = .ok (.invokevirtual 70, 3) := by decide +kernel
theorem d_Md_shared_19 : decode b_Md_shared 19 = .ok (.ifCond .eq 7, 3) := by decide +kernel
theorem d_Md_shared_22 : decode b_Md_shared 22 = .ok (.iconst 0, 1) := by decide +kernel
theorem d_Md_shared_23 : decode b_Md_shared 23 = .ok (.goto 9, 3) := by decide +kernel
theorem d_Md_shared_26 : decode b_Md_shared 26 = .ok (.aload_n 0, 1) := by decide +kernel
theorem d_Md_shared_27 : decode b_Md_shared 27 = .ok (.getfield 37, 3) := by decide +kernel
theorem d_Md_shared_30 : decode b_Md_shared 30 = .ok (.iload_n 1, 1) := by decide +kernel
theorem d_Md_shared_31 : decode b_Md_shared 31 = .ok (.iaload, 1) := by decide +kernel
theorem d_Md_shared_32 : decode b_Md_shared 32 = .ok (.ireturn, 1) := by decide +kernel
end
section
theorem d_Lw_load_0 : decode b_Lw_load 0 = .ok (.aload_n 0, 1) := by decide +kernel
theorem d_Lw_load_1 : decode b_Lw_load 1 = .ok (.iload_n 1, 1) := by decide +kernel
theorem d_Lw_load_2 : decode b_Lw_load 2 = .ok (.iload_n 2, 1) := by decide +kernel
theorem d_Lw_load_3 : decode b_Lw_load 3 = .ok (.invokevirtual 7, 3) := by decide +kernel
theorem d_Lw_load_6 : decode b_Lw_load 6 = .ok (.goto 9, 3) := by decide +kernel
theorem d_Lw_load_9 : decode b_Lw_load 9 = .ok (.astore_n 3, 1) := by decide +kernel
theorem d_Lw_load_10 : decode b_Lw_load 10 = .ok (.iconst 1, 1) := by decide +kernel
theorem d_Lw_load_11 : decode b_Lw_load 11 = .ok (.ireturn, 1) := by decide +kernel
theorem d_Lw_load_12 : decode b_Lw_load 12 = .ok (.astore_n 3, 1) := by decide +kernel
theorem d_Lw_load_13 : decode b_Lw_load 13 = .ok (.iconst 2, 1) := by decide +kernel
theorem d_Lw_load_14 : decode b_Lw_load 14 = .ok (.ireturn, 1) := by decide +kernel
theorem d_Lw_load_15 : decode b_Lw_load 15 = .ok (.iconst 0, 1) := by decide +kernel
theorem d_Lw_load_16 : decode b_Lw_load 16 = .ok (.ireturn, 1) := by decide +kernel
theorem d_Lw_task_0 : decode b_Lw_task 0 = .ok (.aload 5, 2) := by decide +kernel
theorem d_Lw_task_2 : decode b_Lw_task 2 = .ok (.iconst 0, 1) := by decide +kernel
theorem d_Lw_task_3 : decode b_Lw_task 3 = .ok (.aload_n 0, 1) := by decide +kernel
theorem d_Lw_task_4 : decode b_Lw_task 4 = .ok (.iload_n 1, 1) := by decide +kernel
theorem d_Lw_task_5 : decode b_Lw_task 5 = .ok (.iload_n 2, 1) := by decide +kernel
theorem d_Lw_task_6 : decode b_Lw_task 6 = .ok (.iload_n 3, 1) := by decide +kernel
theorem d_Lw_task_7 : decode b_Lw_task 7 = .ok (.iload 4, 2) := by decide +kernel
theorem d_Lw_task_9 : decode b_Lw_task 9 = .ok (.invokevirtual 17, 3) := by decide +kernel
theorem d_Lw_task_12 : decode b_Lw_task 12 = .ok (.i2l, 1) := by decide +kernel
theorem d_Lw_task_13 : decode b_Lw_task 13 = .ok (.lastore, 1) := by decide +kernel
theorem d_Lw_task_14 : decode b_Lw_task 14 = .ok (.goto 11, 3) := by decide +kernel
theorem d_Lw_task_17 : decode b_Lw_task 17 = .ok (.astore 6, 2) := by decide +kernel
theorem d_Lw_task_19 : decode b_Lw_task 19 = .ok (.iconst 1, 1) := by decide +kernel
theorem d_Lw_task_20 : decode b_Lw_task 20 = .ok (.ireturn, 1) := by decide +kernel
theorem d_Lw_task_21 : decode b_Lw_task 21 = .ok (.astore 6, 2) := by decide +kernel
theorem d_Lw_task_23 : decode b_Lw_task 23 = .ok (.iconst 2, 1) := by decide +kernel
theorem d_Lw_task_24 : decode b_Lw_task 24 = .ok (.ireturn, 1) := by decide +kernel
theorem d_Lw_task_25 : decode b_Lw_task 25 = .ok (.iconst 0, 1) := by decide +kernel
theorem d_Lw_task_26 : decode b_Lw_task 26 = .ok (.ireturn, 1) := by decide +kernel
theorem d_Lw_entry_0 : decode b_Lw_entry 0 = .ok (.aload_n 0, 1) := by decide +kernel
theorem d_Lw_entry_1 : decode b_Lw_entry 1 = .ok (.iload_n 1, 1) := by decide +kernel
theorem d_Lw_entry_2 : decode b_Lw_entry 2 = .ok (.iload_n 2, 1) := by decide +kernel
theorem d_Lw_entry_3 : decode b_Lw_entry 3 = .ok (.invokevirtual 23, 3) := by decide +kernel
theorem d_Lw_entry_6 : decode b_Lw_entry 6 = .ok (.goto 9, 3) := by decide +kernel
theorem d_Lw_entry_9 : decode b_Lw_entry 9 = .ok (.astore_n 3, 1) := by decide +kernel
theorem d_Lw_entry_10 : decode b_Lw_entry 10 = .ok (.iconst 1, 1) := by decide +kernel
theorem d_Lw_entry_11 : decode b_Lw_entry 11 = .ok (.ireturn, 1) := by decide +kernel
theorem d_Lw_entry_12 : decode b_Lw_entry 12 = .ok (.astore_n 3, 1) := by decide +kernel
theorem d_Lw_entry_13 : decode b_Lw_entry 13 = .ok (.iconst 2, 1) := by decide +kernel
theorem d_Lw_entry_14 : decode b_Lw_entry 14 = .ok (.ireturn, 1) := by decide +kernel
theorem d_Lw_entry_15 : decode b_Lw_entry 15 = .ok (.iconst 0, 1) := by decide +kernel
theorem d_Lw_entry_16 : decode b_Lw_entry 16 = .ok (.ireturn, 1) := by decide +kernel
theorem d_Lw_clear_0 : decode b_Lw_clear 0 = .ok (.aload_n 0, 1) := by decide +kernel
theorem d_Lw_clear_1 : decode b_Lw_clear 1 = .ok (.invokevirtual 26, 3) := by decide +kernel
theorem d_Lw_clear_4 : decode b_Lw_clear 4 = .ok (.goto 6, 3) := by decide +kernel
theorem d_Lw_clear_7 : decode b_Lw_clear 7 = .ok (.astore_n 1, 1) := by decide +kernel
theorem d_Lw_clear_8 : decode b_Lw_clear 8 = .ok (.iconst 1, 1) := by decide +kernel
theorem d_Lw_clear_9 : decode b_Lw_clear 9 = .ok (.ireturn, 1) := by decide +kernel
theorem d_Lw_clear_10 : decode b_Lw_clear 10 = .ok (.iconst 0, 1) := by decide +kernel
theorem d_Lw_clear_11 : decode b_Lw_clear 11 = .ok (.ireturn, 1) := by decide +kernel
theorem d_Lw_synthesize_0 : decode b_Lw_synthesize 0 = .ok (.aload_n 1, 1) := by decide +kernel
theorem d_Lw_synthesize_1 : decode b_Lw_synthesize 1 = .ok (.iconst 0, 1) := by decide +kernel
theorem d_Lw_synthesize_2 : decode b_Lw_synthesize 2 = .ok (.aload_n 0, 1) := by decide +kernel
theorem d_Lw_synthesize_3 : decode b_Lw_synthesize 3 = .ok (.invokevirtual 29, 3) := by decide +kernel
theorem d_Lw_synthesize_6 : decode b_Lw_synthesize 6 = .ok (.i2l, 1) := by decide +kernel
theorem d_Lw_synthesize_7 : decode b_Lw_synthesize 7 = .ok (.lastore, 1) := by decide +kernel
theorem d_Lw_synthesize_8 : decode b_Lw_synthesize 8 = .ok (.goto 6, 3) := by decide +kernel
theorem d_Lw_synthesize_11 : decode b_Lw_synthesize 11 = .ok (.astore_n 2, 1) := by decide +kernel
theorem d_Lw_synthesize_12 : decode b_Lw_synthesize 12 = .ok (.iconst 1, 1) := by decide +kernel
theorem d_Lw_synthesize_13 : decode b_Lw_synthesize 13 = .ok (.ireturn, 1) := by decide +kernel
theorem d_Lw_synthesize_14 : decode b_Lw_synthesize 14 = .ok (.iconst 0, 1) := by decide +kernel
theorem d_Lw_synthesize_15 : decode b_Lw_synthesize 15 = .ok (.ireturn, 1) := by decide +kernel
theorem d_Lw_slot_0 : decode b_Lw_slot 0 = .ok (.aload_n 0, 1) := by decide +kernel
theorem d_Lw_slot_1 : decode b_Lw_slot 1 = .ok (.iload_n 1, 1) := by decide +kernel
theorem d_Lw_slot_2 : decode b_Lw_slot 2 = .ok (.iload_n 2, 1) := by decide +kernel
theorem d_Lw_slot_3 : decode b_Lw_slot 3 = .ok (.iload_n 3, 1) := by decide +kernel
theorem d_Lw_slot_4 : decode b_Lw_slot 4 = .ok (.iload 4, 2) := by decide +kernel
theorem d_Lw_slot_6 : decode b_Lw_slot 6 = .ok (.invokevirtual 33, 3) := by decide +kernel
theorem d_Lw_slot_9 : decode b_Lw_slot 9 = .ok (.goto 15, 3) := by decide +kernel
theorem d_Lw_slot_12 : decode b_Lw_slot 12 = .ok (.astore 5, 2) := by decide +kernel
theorem d_Lw_slot_14 : decode b_Lw_slot 14 = .ok (.iconst 1, 1) := by decide +kernel
theorem d_Lw_slot_15 : decode b_Lw_slot 15 = .ok (.ireturn, 1) := by decide +kernel
theorem d_Lw_slot_16 : decode b_Lw_slot 16 = .ok (.astore 5, 2) := by decide +kernel
theorem d_Lw_slot_18 : decode b_Lw_slot 18 = .ok (.iconst 2, 1) := by decide +kernel
theorem d_Lw_slot_19 : decode b_Lw_slot 19 = .ok (.ireturn, 1) := by decide +kernel
theorem d_Lw_slot_20 : decode b_Lw_slot 20 = .ok (.astore 5, 2) := by decide +kernel
theorem d_Lw_slot_22 : decode b_Lw_slot 22 = .ok (.iconst 3, 1) := by decide +kernel
theorem d_Lw_slot_23 : decode b_Lw_slot 23 = .ok (.ireturn, 1) := by decide +kernel
theorem d_Lw_slot_24 : decode b_Lw_slot 24 = .ok (.iconst 0, 1) := by decide +kernel
theorem d_Lw_slot_25 : decode b_Lw_slot 25 = .ok (.ireturn, 1) := by decide +kernel
theorem d_Lw_drop_0 : decode b_Lw_drop 0 = .ok (.aload_n 0, 1) := by decide +kernel
theorem d_Lw_drop_1 : decode b_Lw_drop 1 = .ok (.invokevirtual 37, 3) := by decide +kernel
theorem d_Lw_drop_4 : decode b_Lw_drop 4 = .ok (.goto 6, 3) := by decide +kernel
theorem d_Lw_drop_7 : decode b_Lw_drop 7 = .ok (.astore_n 1, 1) := by decide +kernel
theorem d_Lw_drop_8 : decode b_Lw_drop 8 = .ok (.iconst 1, 1) := by decide +kernel
theorem d_Lw_drop_9 : decode b_Lw_drop 9 = .ok (.ireturn, 1) := by decide +kernel
theorem d_Lw_drop_10 : decode b_Lw_drop 10 = .ok (.iconst 0, 1) := by decide +kernel
theorem d_Lw_drop_11 : decode b_Lw_drop 11 = .ok (.ireturn, 1) := by decide +kernel
theorem d_Lw_slotOf_0 : decode b_Lw_slotOf 0 = .ok (.aload_n 3, 1) := by decide +kernel
theorem d_Lw_slotOf_1 : decode b_Lw_slotOf 1 = .ok (.iconst 0, 1) := by decide +kernel
theorem d_Lw_slotOf_2 : decode b_Lw_slotOf 2 = .ok (.aload_n 0, 1) := by decide +kernel
theorem d_Lw_slotOf_3 : decode b_Lw_slotOf 3 = .ok (.iload_n 1, 1) := by decide +kernel
theorem d_Lw_slotOf_4 : decode b_Lw_slotOf 4 = .ok (.iload_n 2, 1) := by decide +kernel
theorem d_Lw_slotOf_5 : decode b_Lw_slotOf 5 = .ok (.invokevirtual 40, 3) := by decide +kernel
theorem d_Lw_slotOf_8 : decode b_Lw_slotOf 8 = .ok (.i2l, 1) := by decide +kernel
theorem d_Lw_slotOf_9 : decode b_Lw_slotOf 9 = .ok (.lastore, 1) := by decide +kernel
theorem d_Lw_slotOf_10 : decode b_Lw_slotOf 10 = .ok (.goto 7, 3) := by decide +kernel
theorem d_Lw_slotOf_13 : decode b_Lw_slotOf 13 = .ok (.astore 4, 2) := by decide +kernel
theorem d_Lw_slotOf_15 : decode b_Lw_slotOf 15 = .ok (.iconst 1, 1) := by decide +kernel
theorem d_Lw_slotOf_16 : decode b_Lw_slotOf 16 = .ok (.ireturn, 1) := by decide +kernel
theorem d_Lw_slotOf_17 : decode b_Lw_slotOf 17 = .ok (.iconst 0, 1) := by decide +kernel
theorem d_Lw_slotOf_18 : decode b_Lw_slotOf 18 = .ok (.ireturn, 1) := by decide +kernel
theorem d_Lw_check_0 : decode b_Lw_check 0 = .ok (.aload_n 1, 1) := by decide +kernel
theorem d_Lw_check_1 : decode b_Lw_check 1 = .ok (.iconst 0, 1) := by decide +kernel
theorem d_Lw_check_2 : decode b_Lw_check 2 = .ok (.aload_n 0, 1) := by decide +kernel
theorem d_Lw_check_3 : decode b_Lw_check 3 = .ok (.invokevirtual 44, 3) := by decide +kernel
theorem d_Lw_check_6 : decode b_Lw_check 6 = .ok (.ifCond .eq 7, 3) := by decide +kernel
theorem d_Lw_check_9 : decode b_Lw_check 9 = .ok (.lconst 1, 1) := by decide +kernel
theorem d_Lw_check_10 : decode b_Lw_check 10 = .ok (.goto 4, 3) := by decide +kernel
theorem d_Lw_check_13 : decode b_Lw_check 13 = .ok (.lconst 0, 1) := by decide +kernel
theorem d_Lw_check_14 : decode b_Lw_check 14 = .ok (.lastore, 1) := by decide +kernel
theorem d_Lw_check_15 : decode b_Lw_check 15 = .ok (.goto 6, 3) := by decide +kernel
theorem d_Lw_check_18 : decode b_Lw_check 18 = .ok (.astore_n 2, 1) := by decide +kernel
theorem d_Lw_check_19 : decode b_Lw_check 19 = .ok (.iconst 1, 1) := by decide +kernel
theorem d_Lw_check_20 : decode b_Lw_check 20 = .ok (.ireturn, 1) := by decide +kernel
theorem d_Lw_check_21 : decode b_Lw_check 21 = .ok (.iconst 0, 1) := by decide +kernel
theorem d_Lw_check_22 : decode b_Lw_check 22 = .ok (.ireturn, 1) := by decide +kernel
theorem d_Lw_stop_0 : decode b_Lw_stop 0 = .ok (.aload_n 0, 1) := by decide +kernel
theorem d_Lw_stop_1 : decode b_Lw_stop 1 = .ok (.invokevirtual 48, 3) := by decide +kernel
theorem d_Lw_stop_4 : decode b_Lw_stop 4 = .ok (.goto 6, 3) := by decide +kernel
theorem d_Lw_stop_7 : decode b_Lw_stop 7 = .ok (.astore_n 1, 1) := by decide +kernel
theorem d_Lw_stop_8 : decode b_Lw_stop 8 = .ok (.iconst 1, 1) := by decide +kernel
theorem d_Lw_stop_9 : decode b_Lw_stop 9 = .ok (.ireturn, 1) := by decide +kernel
theorem d_Lw_stop_10 : decode b_Lw_stop 10 = .ok (.iconst 0, 1) := by decide +kernel
theorem d_Lw_stop_11 : decode b_Lw_stop 11 = .ok (.ireturn, 1) := by decide +kernel
theorem d_Lw_tick_0 : decode b_Lw_tick 0 = .ok (.aload_n 1, 1) := by decide +kernel
theorem d_Lw_tick_1 : decode b_Lw_tick 1 = .ok (.iconst 0, 1) := by decide +kernel
theorem d_Lw_tick_2 : decode b_Lw_tick 2 = .ok (.aload_n 0, 1) := by decide +kernel
theorem d_Lw_tick_3 : decode b_Lw_tick 3 = .ok (.invokevirtual 51, 3) := by decide +kernel
theorem d_Lw_tick_6 : decode b_Lw_tick 6 = .ok (.i2l, 1) := by decide +kernel
theorem d_Lw_tick_7 : decode b_Lw_tick 7 = .ok (.lastore, 1) := by decide +kernel
theorem d_Lw_tick_8 : decode b_Lw_tick 8 = .ok (.goto 6, 3) := by decide +kernel
theorem d_Lw_tick_11 : decode b_Lw_tick 11 = .ok (.astore_n 2, 1) := by decide +kernel
theorem d_Lw_tick_12 : decode b_Lw_tick 12 = .ok (.iconst 1, 1) := by decide +kernel
theorem d_Lw_tick_13 : decode b_Lw_tick 13 = .ok (.ireturn, 1) := by decide +kernel
theorem d_Lw_tick_14 : decode b_Lw_tick 14 = .ok (.iconst 0, 1) := by decide +kernel
theorem d_Lw_tick_15 : decode b_Lw_tick 15 = .ok (.ireturn, 1) := by decide +kernel
theorem d_Lw_ticks_0 : decode b_Lw_ticks 0 = .ok (.aload_n 2, 1) := by decide +kernel
theorem d_Lw_ticks_1 : decode b_Lw_ticks 1 = .ok (.iconst 0, 1) := by decide +kernel
theorem d_Lw_ticks_2 : decode b_Lw_ticks 2 = .ok (.aload_n 0, 1) := by decide +kernel
theorem d_Lw_ticks_3 : decode b_Lw_ticks 3 = .ok (.iload_n 1, 1) := by decide +kernel
theorem d_Lw_ticks_4 : decode b_Lw_ticks 4 = .ok (.invokevirtual 54, 3) := by decide +kernel
theorem d_Lw_ticks_7 : decode b_Lw_ticks 7 = .ok (.i2l, 1) := by decide +kernel
theorem d_Lw_ticks_8 : decode b_Lw_ticks 8 = .ok (.lastore, 1) := by decide +kernel
theorem d_Lw_ticks_9 : decode b_Lw_ticks 9 = .ok (.goto 9, 3) := by decide +kernel
theorem d_Lw_ticks_12 : decode b_Lw_ticks 12 = .ok (.astore_n 3, 1) := by decide +kernel
theorem d_Lw_ticks_13 : decode b_Lw_ticks 13 = .ok (.iconst 1, 1) := by decide +kernel
theorem d_Lw_ticks_14 : decode b_Lw_ticks 14 = .ok (.ireturn, 1) := by decide +kernel
theorem d_Lw_ticks_15 : decode b_Lw_ticks 15 = .ok (.astore_n 3, 1) := by decide +kernel
theorem d_Lw_ticks_16 : decode b_Lw_ticks 16 = .ok (.iconst 2, 1) := by decide +kernel
theorem d_Lw_ticks_17 : decode b_Lw_ticks 17 = .ok (.ireturn, 1) := by decide +kernel
theorem d_Lw_ticks_18 : decode b_Lw_ticks 18 = .ok (.iconst 0, 1) := by decide +kernel
theorem d_Lw_ticks_19 : decode b_Lw_ticks 19 = .ok (.ireturn, 1) := by decide +kernel
theorem d_Lw_count_0 : decode b_Lw_count 0 = .ok (.aload_n 3, 1) := by decide +kernel
theorem d_Lw_count_1 : decode b_Lw_count 1 = .ok (.iconst 0, 1) := by decide +kernel
theorem d_Lw_count_2 : decode b_Lw_count 2 = .ok (.aload_n 0, 1) := by decide +kernel
theorem d_Lw_count_3 : decode b_Lw_count 3 = .ok (.iload_n 1, 1) := by decide +kernel
theorem d_Lw_count_4 : decode b_Lw_count 4 = .ok (.iload_n 2, 1) := by decide +kernel
theorem d_Lw_count_5 : decode b_Lw_count 5 = .ok (.invokevirtual 58, 3) := by decide +kernel
theorem d_Lw_count_8 : decode b_Lw_count 8 = .ok (.i2l, 1) := by decide +kernel
theorem d_Lw_count_9 : decode b_Lw_count 9 = .ok (.lastore, 1) := by decide +kernel
theorem d_Lw_count_10 : decode b_Lw_count 10 = .ok (.goto 7, 3) := by decide +kernel
theorem d_Lw_count_13 : decode b_Lw_count 13 = .ok (.astore 4, 2) := by decide +kernel
theorem d_Lw_count_15 : decode b_Lw_count 15 = .ok (.iconst 1, 1) := by decide +kernel
theorem d_Lw_count_16 : decode b_Lw_count 16 = .ok (.ireturn, 1) := by decide +kernel
theorem d_Lw_count_17 : decode b_Lw_count 17 = .ok (.iconst 0, 1) := by decide +kernel
theorem d_Lw_count_18 : decode b_Lw_count 18 = .ok (.ireturn, 1) := by decide +kernel
theorem d_Lw_shared_0 : decode b_Lw_shared 0 = .ok (.aload_n 2, 1) := by decide +kernel
theorem d_Lw_shared_1 : decode b_Lw_shared 1 = .ok (.iconst 0, 1) := by decide +kernel
theorem d_Lw_shared_2 : decode b_Lw_shared 2 = .ok (.aload_n 0, 1) := by decide +kernel
theorem d_Lw_shared_3 : decode b_Lw_shared 3 = .ok (.iload_n 1, 1) := by decide +kernel
theorem d_Lw_shared_4 : decode b_Lw_shared 4 = .ok (.invokevirtual 61, 3) := by decide +kernel
theorem d_Lw_shared_7 : decode b_Lw_shared 7 = .ok (.i2l, 1) := by decide +kernel
theorem d_Lw_shared_8 : decode b_Lw_shared 8 = .ok (.lastore, 1) := by decide +kernel
theorem d_Lw_shared_9 : decode b_Lw_shared 9 = .ok (.goto 6, 3) := by decide +kernel
theorem d_Lw_shared_12 : decode b_Lw_shared 12 = .ok (.astore_n 3, 1) := by decide +kernel
theorem d_Lw_shared_13 : decode b_Lw_shared 13 = .ok (.iconst 1, 1) := by decide +kernel
theorem d_Lw_shared_14 : decode b_Lw_shared 14 = .ok (.ireturn, 1) := by decide +kernel
theorem d_Lw_shared_15 : decode b_Lw_shared 15 = .ok (.iconst 0, 1) := by decide +kernel
theorem d_Lw_shared_16 : decode b_Lw_shared 16 = .ok (.ireturn, 1) := by decide +kernel
end
section
section XWALK
variable {p : Program} {l : Launch} {e : Env} {R : Room} {s : State} {m : MethodId} {args : Array Value} {below : List Frame} {meth : Method} {c : Code} {cells slots : Nat} {Q : State → Prop}
variable {cc : ByteArray} {nL pc pc' : Nat} {own : String} {Ts : List Cond} {D : va_G} {cl : List vw_C} {tys : List (ClassId × FieldType)} {A : Nat → Prop} {H0 : Heap} {ws : va_W} {lv lv' : List (Nat × Value)} {rest st : List Value}
/-- what a walk has of its method -/
def xw_C (p : Program) (s : State) (m : MethodId) (args : Array Value) (c : Code) (cc : ByteArray) (nL : Nat) (own : String) (Ts : List Cond) (D : va_G) (cl : List vw_C) (tys : List (ClassId × FieldType)) (A : Nat → Prop) (H0 : Heap) : Prop :=
  p.tables.exec = Jvm.exec ∧ c.code = cc ∧ c.maxLocals = nL ∧ s.vm.findClass own = some m.cls ∧ (∀ w ∈ Ts, w.before args s = true) ∧ va_K D cl tys s ∧ ∀ q, H0.size ≤ q → A q
/-- the walk stands at pc, with these locals and this stack, in any heap that holds the world ws -/
def XW (p : Program) (l : Launch) (e : Env) (R : Room) (s : State) (m : MethodId) (args : Array Value) (below : List Frame) (meth : Method) (c : Code) (D : va_G) (cl : List vw_C) (A : Nat → Prop) (H0 : Heap) (nL : Nat) (ws : va_W) (cells slots : Nat) (Q : State → Prop) (pc : Nat) (lv : List (Nat × Value)) (st : List Value) : Prop :=
  ∀ (H : Heap) (locs : List Loc) (ls : Array Slot), va_P D cl ws H → va_D A ws → va_S A H0 H locs → lv_has ls nL lv → W p l e R s m args below meth c H locs cells slots Q (F0 m pc ls st)
theorem xw_iconst (C : xw_C p s m args c cc nL own Ts D cl tys A H0) {n : Int} {v : Int32} (hdg : decode cc pc = .ok (.iconst n, 1)) (hv : Int32.ofInt n = v) (hp : pc + 1 = pc')
    (k : XW p l e R s m args below meth c D cl A H0 nL ws cells slots Q pc' lv (.int v :: rest)) : XW p l e R s m args below meth c D cl A H0 nL ws cells slots Q pc lv rest := by
  subst hp
  exact fun H locs ls hP hD hS hl => lv_iconst C.1 C.2.1 hdg hv (k H locs ls hP hD hS hl)
theorem xw_bipush (C : xw_C p s m args c cc nL own Ts D cl tys A H0) {n : Int} {v : Int32} (hdg : decode cc pc = .ok (.bipush n, 2)) (hv : (Int8.ofInt n).toInt32 = v) (hp : pc + 2 = pc')
    (k : XW p l e R s m args below meth c D cl A H0 nL ws cells slots Q pc' lv (.int v :: rest)) : XW p l e R s m args below meth c D cl A H0 nL ws cells slots Q pc lv rest := by
  subst hp
  exact fun H locs ls hP hD hS hl => lv_bipush C.1 C.2.1 hdg hv (k H locs ls hP hD hS hl)
theorem xw_sipush (C : xw_C p s m args c cc nL own Ts D cl tys A H0) {n : Int} {v : Int32} (hdg : decode cc pc = .ok (.sipush n, 3)) (hv : (Int16.ofInt n).toInt32 = v) (hp : pc + 3 = pc')
    (k : XW p l e R s m args below meth c D cl A H0 nL ws cells slots Q pc' lv (.int v :: rest)) : XW p l e R s m args below meth c D cl A H0 nL ws cells slots Q pc lv rest := by
  subst hp
  exact fun H locs ls hP hD hS hl => lv_sipush C.1 C.2.1 hdg hv (k H locs ls hP hD hS hl)
theorem xw_lconst (C : xw_C p s m args c cc nL own Ts D cl tys A H0) {n : Fin 2} {v : Int64} (hdg : decode cc pc = .ok (.lconst n, 1)) (hv : Int64.ofNat (n : Nat) = v) (hp : pc + 1 = pc')
    (k : XW p l e R s m args below meth c D cl A H0 nL ws cells slots Q pc' lv (.long v :: rest)) : XW p l e R s m args below meth c D cl A H0 nL ws cells slots Q pc lv rest := by
  subst hp
  exact fun H locs ls hP hD hS hl => lv_lconst C.1 C.2.1 hdg hv (k H locs ls hP hD hS hl)
theorem xw_iload_n (C : xw_C p s m args c cc nL own Ts D cl tys A H0) (j : Nat) {k : Fin 4} {i : Nat} {x : Int32} (hdg : decode cc pc = .ok (.iload_n k, 1)) (hi : (k : Nat) = i) (hj : lv[j]? = some (i, .int x)) (hp : pc + 1 = pc')
    (kk : XW p l e R s m args below meth c D cl A H0 nL ws cells slots Q pc' lv (.int x :: rest)) : XW p l e R s m args below meth c D cl A H0 nL ws cells slots Q pc lv rest := by
  subst hp
  exact fun H locs ls hP hD hS hl => lv_iload_n C.1 C.2.1 hdg hi (lv_at hl j hj) (kk H locs ls hP hD hS hl)
theorem xw_iload (C : xw_C p s m args c cc nL own Ts D cl tys A H0) (j : Nat) {i : Nat} {x : Int32} (hdg : decode cc pc = .ok (.iload i, 2)) (hj : lv[j]? = some (i, .int x)) (hp : pc + 2 = pc')
    (kk : XW p l e R s m args below meth c D cl A H0 nL ws cells slots Q pc' lv (.int x :: rest)) : XW p l e R s m args below meth c D cl A H0 nL ws cells slots Q pc lv rest := by
  subst hp
  exact fun H locs ls hP hD hS hl => lv_iload C.1 C.2.1 hdg (lv_at hl j hj) (kk H locs ls hP hD hS hl)
theorem xw_aload_n (C : xw_C p s m args c cc nL own Ts D cl tys A H0) (j : Nat) {k : Fin 4} {i x : Nat} (hdg : decode cc pc = .ok (.aload_n k, 1)) (hi : (k : Nat) = i) (hj : lv[j]? = some (i, .ref x)) (hp : pc + 1 = pc')
    (kk : XW p l e R s m args below meth c D cl A H0 nL ws cells slots Q pc' lv (.ref x :: rest)) : XW p l e R s m args below meth c D cl A H0 nL ws cells slots Q pc lv rest := by
  subst hp
  exact fun H locs ls hP hD hS hl => lv_aload_n C.1 C.2.1 hdg hi (lv_at hl j hj) (kk H locs ls hP hD hS hl)
theorem xw_aload (C : xw_C p s m args c cc nL own Ts D cl tys A H0) (j : Nat) {i x : Nat} (hdg : decode cc pc = .ok (.aload i, 2)) (hj : lv[j]? = some (i, .ref x)) (hp : pc + 2 = pc')
    (kk : XW p l e R s m args below meth c D cl A H0 nL ws cells slots Q pc' lv (.ref x :: rest)) : XW p l e R s m args below meth c D cl A H0 nL ws cells slots Q pc lv rest := by
  subst hp
  exact fun H locs ls hP hD hS hl => lv_aload C.1 C.2.1 hdg (lv_at hl j hj) (kk H locs ls hP hD hS hl)
theorem xw_istore_n (C : xw_C p s m args c cc nL own Ts D cl tys A H0) {k : Fin 4} {i : Nat} {x : Int32} (hdg : decode cc pc = .ok (.istore_n k, 1)) (hi : (k : Nat) = i) (hn : i < nL) (hl' : (i, Value.int x) :: lv.filter (fun q => !(q.1 == i) && !(q.1 + 1 == i && q.2.category == 2)) = lv') (hp : pc + 1 = pc')
    (kk : XW p l e R s m args below meth c D cl A H0 nL ws cells slots Q pc' lv' rest) : XW p l e R s m args below meth c D cl A H0 nL ws cells slots Q pc lv (.int x :: rest) := by
  subst hp
  exact fun H locs ls hP hD hS hl => lv_istore_n C.1 C.2.1 hdg hi hl hn hl' (fun ls' h => kk H locs ls' hP hD hS h)
theorem xw_istore (C : xw_C p s m args c cc nL own Ts D cl tys A H0) {i : Nat} {x : Int32} (hdg : decode cc pc = .ok (.istore i, 2)) (hn : i < nL) (hl' : (i, Value.int x) :: lv.filter (fun q => !(q.1 == i) && !(q.1 + 1 == i && q.2.category == 2)) = lv') (hp : pc + 2 = pc')
    (kk : XW p l e R s m args below meth c D cl A H0 nL ws cells slots Q pc' lv' rest) : XW p l e R s m args below meth c D cl A H0 nL ws cells slots Q pc lv (.int x :: rest) := by
  subst hp
  exact fun H locs ls hP hD hS hl => lv_istore C.1 C.2.1 hdg hl hn hl' (fun ls' h => kk H locs ls' hP hD hS h)
theorem xw_astore_n (C : xw_C p s m args c cc nL own Ts D cl tys A H0) {k : Fin 4} {i x : Nat} (hdg : decode cc pc = .ok (.astore_n k, 1)) (hi : (k : Nat) = i) (hn : i < nL) (hl' : (i, Value.ref x) :: lv.filter (fun q => !(q.1 == i) && !(q.1 + 1 == i && q.2.category == 2)) = lv') (hp : pc + 1 = pc')
    (kk : XW p l e R s m args below meth c D cl A H0 nL ws cells slots Q pc' lv' rest) : XW p l e R s m args below meth c D cl A H0 nL ws cells slots Q pc lv (.ref x :: rest) := by
  subst hp
  exact fun H locs ls hP hD hS hl => lv_astore_n C.1 C.2.1 hdg hi hl hn hl' (fun ls' h => kk H locs ls' hP hD hS h)
theorem xw_astore (C : xw_C p s m args c cc nL own Ts D cl tys A H0) {i x : Nat} (hdg : decode cc pc = .ok (.astore i, 2)) (hn : i < nL) (hl' : (i, Value.ref x) :: lv.filter (fun q => !(q.1 == i) && !(q.1 + 1 == i && q.2.category == 2)) = lv') (hp : pc + 2 = pc')
    (kk : XW p l e R s m args below meth c D cl A H0 nL ws cells slots Q pc' lv' rest) : XW p l e R s m args below meth c D cl A H0 nL ws cells slots Q pc lv (.ref x :: rest) := by
  subst hp
  exact fun H locs ls hP hD hS hl => lv_astore C.1 C.2.1 hdg hl hn hl' (fun ls' h => kk H locs ls' hP hD hS h)
theorem xw_iinc (C : xw_C p s m args c cc nL own Ts D cl tys A H0) (j : Nat) {i : Nat} {n : Int} {x v : Int32} (hdg : decode cc pc = .ok (.iinc i n, 3)) (hj : lv[j]? = some (i, .int x)) (hv : x + Int32.ofInt n = v) (hn : i < nL) (hl' : (i, Value.int v) :: lv.filter (fun q => !(q.1 == i) && !(q.1 + 1 == i && q.2.category == 2)) = lv') (hp : pc + 3 = pc')
    (kk : XW p l e R s m args below meth c D cl A H0 nL ws cells slots Q pc' lv' rest) : XW p l e R s m args below meth c D cl A H0 nL ws cells slots Q pc lv rest := by
  subst hp
  exact fun H locs ls hP hD hS hl => lv_iinc C.1 C.2.1 hdg hl hj hv hn hl' (fun ls' h => kk H locs ls' hP hD hS h)
/-- other locals that follow from these -/
theorem xw_lv (js : List Nat) (hl' : lv_pick lv js = lv') (kk : XW p l e R s m args below meth c D cl A H0 nL ws cells slots Q pc lv' st) : XW p l e R s m args below meth c D cl A H0 nL ws cells slots Q pc lv st :=
  fun H locs ls hP hD hS hl => kk H locs ls hP hD hS (lv_sub hl js hl')
/-- another name of the top number -/
theorem xw_topi {x y : Int32} (h : x = y) (kk : XW p l e R s m args below meth c D cl A H0 nL ws cells slots Q pc lv (.int y :: rest)) : XW p l e R s m args below meth c D cl A H0 nL ws cells slots Q pc lv (.int x :: rest) := by
  subst h; exact kk
theorem xw_topl {x y : Int64} (h : x = y) (kk : XW p l e R s m args below meth c D cl A H0 nL ws cells slots Q pc lv (.long y :: rest)) : XW p l e R s m args below meth c D cl A H0 nL ws cells slots Q pc lv (.long x :: rest) := by
  subst h; exact kk
theorem xw_ws {ws' : va_W} (h : ws = ws') (kk : XW p l e R s m args below meth c D cl A H0 nL ws' cells slots Q pc lv st) : XW p l e R s m args below meth c D cl A H0 nL ws cells slots Q pc lv st := by
  subst h; exact kk
theorem xw_widen {k n : Nat} (h1 : cells ≤ k) (h2 : slots ≤ n) (kk : XW p l e R s m args below meth c D cl A H0 nL ws k n Q pc lv st) : XW p l e R s m args below meth c D cl A H0 nL ws cells slots Q pc lv st :=
  fun H locs ls hP hD hS hl => W.widen h1 h2 (kk H locs ls hP hD hS hl)
theorem xw_iadd (C : xw_C p s m args c cc nL own Ts D cl tys A H0) {x y : Int32} (hdg : decode cc pc = .ok (.iadd, 1))  (hp : pc + 1 = pc')
    (k : XW p l e R s m args below meth c D cl A H0 nL ws cells slots Q pc' lv (.int (x + y) :: rest)) : XW p l e R s m args below meth c D cl A H0 nL ws cells slots Q pc lv (.int y :: .int x :: rest) := by
  subst hp
  exact fun H locs ls hP hD hS hl => lv_iadd C.1 C.2.1 hdg  (k H locs ls hP hD hS hl)
theorem xw_isub (C : xw_C p s m args c cc nL own Ts D cl tys A H0) {x y : Int32} (hdg : decode cc pc = .ok (.isub, 1))  (hp : pc + 1 = pc')
    (k : XW p l e R s m args below meth c D cl A H0 nL ws cells slots Q pc' lv (.int (x - y) :: rest)) : XW p l e R s m args below meth c D cl A H0 nL ws cells slots Q pc lv (.int y :: .int x :: rest) := by
  subst hp
  exact fun H locs ls hP hD hS hl => lv_isub C.1 C.2.1 hdg  (k H locs ls hP hD hS hl)
theorem xw_imul (C : xw_C p s m args c cc nL own Ts D cl tys A H0) {x y : Int32} (hdg : decode cc pc = .ok (.imul, 1))  (hp : pc + 1 = pc')
    (k : XW p l e R s m args below meth c D cl A H0 nL ws cells slots Q pc' lv (.int (x * y) :: rest)) : XW p l e R s m args below meth c D cl A H0 nL ws cells slots Q pc lv (.int y :: .int x :: rest) := by
  subst hp
  exact fun H locs ls hP hD hS hl => lv_imul C.1 C.2.1 hdg  (k H locs ls hP hD hS hl)
theorem xw_iand (C : xw_C p s m args c cc nL own Ts D cl tys A H0) {x y : Int32} (hdg : decode cc pc = .ok (.iand, 1))  (hp : pc + 1 = pc')
    (k : XW p l e R s m args below meth c D cl A H0 nL ws cells slots Q pc' lv (.int (x &&& y) :: rest)) : XW p l e R s m args below meth c D cl A H0 nL ws cells slots Q pc lv (.int y :: .int x :: rest) := by
  subst hp
  exact fun H locs ls hP hD hS hl => lv_iand C.1 C.2.1 hdg  (k H locs ls hP hD hS hl)
theorem xw_ixor (C : xw_C p s m args c cc nL own Ts D cl tys A H0) {x y : Int32} (hdg : decode cc pc = .ok (.ixor, 1))  (hp : pc + 1 = pc')
    (k : XW p l e R s m args below meth c D cl A H0 nL ws cells slots Q pc' lv (.int (x ^^^ y) :: rest)) : XW p l e R s m args below meth c D cl A H0 nL ws cells slots Q pc lv (.int y :: .int x :: rest) := by
  subst hp
  exact fun H locs ls hP hD hS hl => lv_ixor C.1 C.2.1 hdg  (k H locs ls hP hD hS hl)
theorem xw_ishr (C : xw_C p s m args c cc nL own Ts D cl tys A H0) {x y : Int32} (hdg : decode cc pc = .ok (.ishr, 1))  (hp : pc + 1 = pc')
    (k : XW p l e R s m args below meth c D cl A H0 nL ws cells slots Q pc' lv (.int (x >>> (y &&& 31)) :: rest)) : XW p l e R s m args below meth c D cl A H0 nL ws cells slots Q pc lv (.int y :: .int x :: rest) := by
  subst hp
  exact fun H locs ls hP hD hS hl => lv_ishr C.1 C.2.1 hdg  (k H locs ls hP hD hS hl)
theorem xw_idiv (C : xw_C p s m args c cc nL own Ts D cl tys A H0) {x y : Int32} (hdg : decode cc pc = .ok (.idiv, 1)) (hne : ¬ y = 0) (hp : pc + 1 = pc')
    (k : XW p l e R s m args below meth c D cl A H0 nL ws cells slots Q pc' lv (.int (x / y) :: rest)) : XW p l e R s m args below meth c D cl A H0 nL ws cells slots Q pc lv (.int y :: .int x :: rest) := by
  subst hp
  exact fun H locs ls hP hD hS hl => lv_idiv C.1 C.2.1 hdg hne (k H locs ls hP hD hS hl)
theorem xw_irem (C : xw_C p s m args c cc nL own Ts D cl tys A H0) {x y : Int32} (hdg : decode cc pc = .ok (.irem, 1)) (hne : ¬ y = 0) (hp : pc + 1 = pc')
    (k : XW p l e R s m args below meth c D cl A H0 nL ws cells slots Q pc' lv (.int (x - x / y * y) :: rest)) : XW p l e R s m args below meth c D cl A H0 nL ws cells slots Q pc lv (.int y :: .int x :: rest) := by
  subst hp
  exact fun H locs ls hP hD hS hl => lv_irem C.1 C.2.1 hdg hne (k H locs ls hP hD hS hl)
theorem xw_i2l (C : xw_C p s m args c cc nL own Ts D cl tys A H0) {x : Int32} {v : Int64} (hdg : decode cc pc = .ok (.i2l, 1)) (hv : x.toInt64 = v) (hp : pc + 1 = pc')
    (k : XW p l e R s m args below meth c D cl A H0 nL ws cells slots Q pc' lv (.long v :: rest)) : XW p l e R s m args below meth c D cl A H0 nL ws cells slots Q pc lv (.int x :: rest) := by
  subst hp
  exact fun H locs ls hP hD hS hl => lv_i2l C.1 C.2.1 hdg hv (k H locs ls hP hD hS hl)
theorem xw_dup (C : xw_C p s m args c cc nL own Ts D cl tys A H0) {va : Value} (hdg : decode cc pc = .ok (.dup, 1)) (hva : va.category = 1) (hp : pc + 1 = pc')
    (k : XW p l e R s m args below meth c D cl A H0 nL ws cells slots Q pc' lv (va :: va :: rest)) : XW p l e R s m args below meth c D cl A H0 nL ws cells slots Q pc lv (va :: rest) := by
  subst hp
  exact fun H locs ls hP hD hS hl => lv_dup C.1 C.2.1 hdg hva (k H locs ls hP hD hS hl)
theorem xw_pop (C : xw_C p s m args c cc nL own Ts D cl tys A H0) {va : Value} (hdg : decode cc pc = .ok (.pop, 1)) (hva : va.category = 1) (hp : pc + 1 = pc')
    (k : XW p l e R s m args below meth c D cl A H0 nL ws cells slots Q pc' lv (rest)) : XW p l e R s m args below meth c D cl A H0 nL ws cells slots Q pc lv (va :: rest) := by
  subst hp
  exact fun H locs ls hP hD hS hl => lv_pop C.1 C.2.1 hdg hva (k H locs ls hP hD hS hl)
theorem xw_dup_x1 (C : xw_C p s m args c cc nL own Ts D cl tys A H0) {va vb : Value} (hdg : decode cc pc = .ok (.dup_x1, 1)) (hva : va.category = 1) (hvb : vb.category = 1) (hp : pc + 1 = pc')
    (k : XW p l e R s m args below meth c D cl A H0 nL ws cells slots Q pc' lv (va :: vb :: va :: rest)) : XW p l e R s m args below meth c D cl A H0 nL ws cells slots Q pc lv (va :: vb :: rest) := by
  subst hp
  exact fun H locs ls hP hD hS hl => lv_dup_x1 C.1 C.2.1 hdg hva hvb (k H locs ls hP hD hS hl)
theorem xw_dup_x2 (C : xw_C p s m args c cc nL own Ts D cl tys A H0) {va vb vd : Value} (hdg : decode cc pc = .ok (.dup_x2, 1)) (hva : va.category = 1) (hvb : vb.category = 1) (hvd : vd.category = 1) (hp : pc + 1 = pc')
    (k : XW p l e R s m args below meth c D cl A H0 nL ws cells slots Q pc' lv (va :: vb :: vd :: va :: rest)) : XW p l e R s m args below meth c D cl A H0 nL ws cells slots Q pc lv (va :: vb :: vd :: rest) := by
  subst hp
  exact fun H locs ls hP hD hS hl => lv_dup_x2 C.1 C.2.1 hdg hva hvb hvd (k H locs ls hP hD hS hl)
theorem xw_dup2_11 (C : xw_C p s m args c cc nL own Ts D cl tys A H0) {va vb : Value} (hdg : decode cc pc = .ok (.dup2, 1)) (hva : va.category = 1) (hvb : vb.category = 1) (hp : pc + 1 = pc')
    (k : XW p l e R s m args below meth c D cl A H0 nL ws cells slots Q pc' lv (va :: vb :: va :: vb :: rest)) : XW p l e R s m args below meth c D cl A H0 nL ws cells slots Q pc lv (va :: vb :: rest) := by
  subst hp
  exact fun H locs ls hP hD hS hl => lv_dup2_11 C.1 C.2.1 hdg hva hvb (k H locs ls hP hD hS hl)
theorem xw_if_eq (C : xw_C p s m args c cc nL own Ts D cl tys A H0) {x : Int32} {off : Int} {tgt : Nat} (hdg : decode cc pc = .ok (.ifCond .eq off, 3)) (ht : (pc : Int) + off = (tgt : Int)) (hp : pc + 3 = pc')
    (kt : x = 0 → XW p l e R s m args below meth c D cl A H0 nL ws cells slots Q tgt lv rest) (kf : ¬ x = 0 → XW p l e R s m args below meth c D cl A H0 nL ws cells slots Q pc' lv rest) : XW p l e R s m args below meth c D cl A H0 nL ws cells slots Q pc lv (.int x :: rest) := by
  subst hp
  exact fun H locs ls hP hD hS hl => lv_if_eq C.1 C.2.1 hdg ht (fun h => kt h H locs ls hP hD hS hl) (fun h => kf h H locs ls hP hD hS hl)
theorem xw_if_ne (C : xw_C p s m args c cc nL own Ts D cl tys A H0) {x : Int32} {off : Int} {tgt : Nat} (hdg : decode cc pc = .ok (.ifCond .ne off, 3)) (ht : (pc : Int) + off = (tgt : Int)) (hp : pc + 3 = pc')
    (kt : ¬ x = 0 → XW p l e R s m args below meth c D cl A H0 nL ws cells slots Q tgt lv rest) (kf : x = 0 → XW p l e R s m args below meth c D cl A H0 nL ws cells slots Q pc' lv rest) : XW p l e R s m args below meth c D cl A H0 nL ws cells slots Q pc lv (.int x :: rest) := by
  subst hp
  exact fun H locs ls hP hD hS hl => lv_if_ne C.1 C.2.1 hdg ht (fun h => kt h H locs ls hP hD hS hl) (fun h => kf h H locs ls hP hD hS hl)
theorem xw_if_lt (C : xw_C p s m args c cc nL own Ts D cl tys A H0) {x : Int32} {off : Int} {tgt : Nat} (hdg : decode cc pc = .ok (.ifCond .lt off, 3)) (ht : (pc : Int) + off = (tgt : Int)) (hp : pc + 3 = pc')
    (kt : x < 0 → XW p l e R s m args below meth c D cl A H0 nL ws cells slots Q tgt lv rest) (kf : ¬ x < 0 → XW p l e R s m args below meth c D cl A H0 nL ws cells slots Q pc' lv rest) : XW p l e R s m args below meth c D cl A H0 nL ws cells slots Q pc lv (.int x :: rest) := by
  subst hp
  exact fun H locs ls hP hD hS hl => lv_if_lt C.1 C.2.1 hdg ht (fun h => kt h H locs ls hP hD hS hl) (fun h => kf h H locs ls hP hD hS hl)
theorem xw_if_ge (C : xw_C p s m args c cc nL own Ts D cl tys A H0) {x : Int32} {off : Int} {tgt : Nat} (hdg : decode cc pc = .ok (.ifCond .ge off, 3)) (ht : (pc : Int) + off = (tgt : Int)) (hp : pc + 3 = pc')
    (kt : 0 ≤ x → XW p l e R s m args below meth c D cl A H0 nL ws cells slots Q tgt lv rest) (kf : ¬ 0 ≤ x → XW p l e R s m args below meth c D cl A H0 nL ws cells slots Q pc' lv rest) : XW p l e R s m args below meth c D cl A H0 nL ws cells slots Q pc lv (.int x :: rest) := by
  subst hp
  exact fun H locs ls hP hD hS hl => lv_if_ge C.1 C.2.1 hdg ht (fun h => kt h H locs ls hP hD hS hl) (fun h => kf h H locs ls hP hD hS hl)
theorem xw_if_gt (C : xw_C p s m args c cc nL own Ts D cl tys A H0) {x : Int32} {off : Int} {tgt : Nat} (hdg : decode cc pc = .ok (.ifCond .gt off, 3)) (ht : (pc : Int) + off = (tgt : Int)) (hp : pc + 3 = pc')
    (kt : 0 < x → XW p l e R s m args below meth c D cl A H0 nL ws cells slots Q tgt lv rest) (kf : ¬ 0 < x → XW p l e R s m args below meth c D cl A H0 nL ws cells slots Q pc' lv rest) : XW p l e R s m args below meth c D cl A H0 nL ws cells slots Q pc lv (.int x :: rest) := by
  subst hp
  exact fun H locs ls hP hD hS hl => lv_if_gt C.1 C.2.1 hdg ht (fun h => kt h H locs ls hP hD hS hl) (fun h => kf h H locs ls hP hD hS hl)
theorem xw_if_le (C : xw_C p s m args c cc nL own Ts D cl tys A H0) {x : Int32} {off : Int} {tgt : Nat} (hdg : decode cc pc = .ok (.ifCond .le off, 3)) (ht : (pc : Int) + off = (tgt : Int)) (hp : pc + 3 = pc')
    (kt : x ≤ 0 → XW p l e R s m args below meth c D cl A H0 nL ws cells slots Q tgt lv rest) (kf : ¬ x ≤ 0 → XW p l e R s m args below meth c D cl A H0 nL ws cells slots Q pc' lv rest) : XW p l e R s m args below meth c D cl A H0 nL ws cells slots Q pc lv (.int x :: rest) := by
  subst hp
  exact fun H locs ls hP hD hS hl => lv_if_le C.1 C.2.1 hdg ht (fun h => kt h H locs ls hP hD hS hl) (fun h => kf h H locs ls hP hD hS hl)
theorem xw_icmp_eq (C : xw_C p s m args c cc nL own Ts D cl tys A H0) {x y : Int32} {off : Int} {tgt : Nat} (hdg : decode cc pc = .ok (.if_icmp .eq off, 3)) (ht : (pc : Int) + off = (tgt : Int)) (hp : pc + 3 = pc')
    (kt : x = y → XW p l e R s m args below meth c D cl A H0 nL ws cells slots Q tgt lv rest) (kf : ¬ x = y → XW p l e R s m args below meth c D cl A H0 nL ws cells slots Q pc' lv rest) : XW p l e R s m args below meth c D cl A H0 nL ws cells slots Q pc lv (.int y :: .int x :: rest) := by
  subst hp
  exact fun H locs ls hP hD hS hl => lv_icmp_eq C.1 C.2.1 hdg ht (fun h => kt h H locs ls hP hD hS hl) (fun h => kf h H locs ls hP hD hS hl)
theorem xw_icmp_ne (C : xw_C p s m args c cc nL own Ts D cl tys A H0) {x y : Int32} {off : Int} {tgt : Nat} (hdg : decode cc pc = .ok (.if_icmp .ne off, 3)) (ht : (pc : Int) + off = (tgt : Int)) (hp : pc + 3 = pc')
    (kt : ¬ x = y → XW p l e R s m args below meth c D cl A H0 nL ws cells slots Q tgt lv rest) (kf : x = y → XW p l e R s m args below meth c D cl A H0 nL ws cells slots Q pc' lv rest) : XW p l e R s m args below meth c D cl A H0 nL ws cells slots Q pc lv (.int y :: .int x :: rest) := by
  subst hp
  exact fun H locs ls hP hD hS hl => lv_icmp_ne C.1 C.2.1 hdg ht (fun h => kt h H locs ls hP hD hS hl) (fun h => kf h H locs ls hP hD hS hl)
theorem xw_icmp_lt (C : xw_C p s m args c cc nL own Ts D cl tys A H0) {x y : Int32} {off : Int} {tgt : Nat} (hdg : decode cc pc = .ok (.if_icmp .lt off, 3)) (ht : (pc : Int) + off = (tgt : Int)) (hp : pc + 3 = pc')
    (kt : x < y → XW p l e R s m args below meth c D cl A H0 nL ws cells slots Q tgt lv rest) (kf : ¬ x < y → XW p l e R s m args below meth c D cl A H0 nL ws cells slots Q pc' lv rest) : XW p l e R s m args below meth c D cl A H0 nL ws cells slots Q pc lv (.int y :: .int x :: rest) := by
  subst hp
  exact fun H locs ls hP hD hS hl => lv_icmp_lt C.1 C.2.1 hdg ht (fun h => kt h H locs ls hP hD hS hl) (fun h => kf h H locs ls hP hD hS hl)
theorem xw_icmp_ge (C : xw_C p s m args c cc nL own Ts D cl tys A H0) {x y : Int32} {off : Int} {tgt : Nat} (hdg : decode cc pc = .ok (.if_icmp .ge off, 3)) (ht : (pc : Int) + off = (tgt : Int)) (hp : pc + 3 = pc')
    (kt : y ≤ x → XW p l e R s m args below meth c D cl A H0 nL ws cells slots Q tgt lv rest) (kf : ¬ y ≤ x → XW p l e R s m args below meth c D cl A H0 nL ws cells slots Q pc' lv rest) : XW p l e R s m args below meth c D cl A H0 nL ws cells slots Q pc lv (.int y :: .int x :: rest) := by
  subst hp
  exact fun H locs ls hP hD hS hl => lv_icmp_ge C.1 C.2.1 hdg ht (fun h => kt h H locs ls hP hD hS hl) (fun h => kf h H locs ls hP hD hS hl)
theorem xw_icmp_gt (C : xw_C p s m args c cc nL own Ts D cl tys A H0) {x y : Int32} {off : Int} {tgt : Nat} (hdg : decode cc pc = .ok (.if_icmp .gt off, 3)) (ht : (pc : Int) + off = (tgt : Int)) (hp : pc + 3 = pc')
    (kt : y < x → XW p l e R s m args below meth c D cl A H0 nL ws cells slots Q tgt lv rest) (kf : ¬ y < x → XW p l e R s m args below meth c D cl A H0 nL ws cells slots Q pc' lv rest) : XW p l e R s m args below meth c D cl A H0 nL ws cells slots Q pc lv (.int y :: .int x :: rest) := by
  subst hp
  exact fun H locs ls hP hD hS hl => lv_icmp_gt C.1 C.2.1 hdg ht (fun h => kt h H locs ls hP hD hS hl) (fun h => kf h H locs ls hP hD hS hl)
theorem xw_icmp_le (C : xw_C p s m args c cc nL own Ts D cl tys A H0) {x y : Int32} {off : Int} {tgt : Nat} (hdg : decode cc pc = .ok (.if_icmp .le off, 3)) (ht : (pc : Int) + off = (tgt : Int)) (hp : pc + 3 = pc')
    (kt : x ≤ y → XW p l e R s m args below meth c D cl A H0 nL ws cells slots Q tgt lv rest) (kf : ¬ x ≤ y → XW p l e R s m args below meth c D cl A H0 nL ws cells slots Q pc' lv rest) : XW p l e R s m args below meth c D cl A H0 nL ws cells slots Q pc lv (.int y :: .int x :: rest) := by
  subst hp
  exact fun H locs ls hP hD hS hl => lv_icmp_le C.1 C.2.1 hdg ht (fun h => kt h H locs ls hP hD hS hl) (fun h => kf h H locs ls hP hD hS hl)
theorem xw_goto (C : xw_C p s m args c cc nL own Ts D cl tys A H0) {off : Int} {tgt : Nat} (hdg : decode cc pc = .ok (.goto off, 3)) (ht : (pc : Int) + off = (tgt : Int)) (k : XW p l e R s m args below meth c D cl A H0 nL ws cells slots Q tgt lv rest) : XW p l e R s m args below meth c D cl A H0 nL ws cells slots Q pc lv rest :=
  fun H locs ls hP hD hS hl => lv_goto C.1 C.2.1 hdg ht (k H locs ls hP hD hS hl)
theorem xw_tableOut (C : xw_C p s m args c cc nL own Ts D cl tys A H0) {dflt lo hi : Int} {offs : Array Int} {len : Nat} {x : Int32} {tgt : Nat} (hdg : decode cc pc = .ok (.tableswitch dflt lo hi offs, len)) (h : x.toInt < lo ∨ hi < x.toInt) (ht : (pc : Int) + dflt = (tgt : Int)) (k : XW p l e R s m args below meth c D cl A H0 nL ws cells slots Q tgt lv rest) : XW p l e R s m args below meth c D cl A H0 nL ws cells slots Q pc lv (.int x :: rest) :=
  fun H locs ls hP hD hS hl => lv_tableOut C.1 C.2.1 hdg h ht (k H locs ls hP hD hS hl)
theorem xw_tableIn (C : xw_C p s m args c cc nL own Ts D cl tys A H0) {dflt lo hi : Int} {offs : Array Int} {len : Nat} {x : Int32} {off : Int} {tgt : Nat} (hdg : decode cc pc = .ok (.tableswitch dflt lo hi offs, len)) (h1 : ¬ x.toInt < lo) (h2 : ¬ hi < x.toInt) (ho : offs[(x.toInt - lo).toNat]? = some off) (ht : (pc : Int) + off = (tgt : Int)) (k : XW p l e R s m args below meth c D cl A H0 nL ws cells slots Q tgt lv rest) : XW p l e R s m args below meth c D cl A H0 nL ws cells slots Q pc lv (.int x :: rest) :=
  fun H locs ls hP hD hS hl => lv_tableIn C.1 C.2.1 hdg h1 h2 ho ht (k H locs ls hP hD hS hl)
theorem xw_lookup (C : xw_C p s m args c cc nL own Ts D cl tys A H0) {dflt : Int} {ps : Array (Int × Int)} {len : Nat} {x : Int32} {off : Int} {tgt : Nat} (hdg : decode cc pc = .ok (.lookupswitch dflt ps, len)) (hps : (ps.toList.zip (ps.toList.drop 1)).all (fun (a, next) => a.1 < next.1) = true) (ho : Op.lookupswitch.offset ps.toList dflt x.toInt = off) (ht : (pc : Int) + off = (tgt : Int)) (k : XW p l e R s m args below meth c D cl A H0 nL ws cells slots Q tgt lv rest) : XW p l e R s m args below meth c D cl A H0 nL ws cells slots Q pc lv (.int x :: rest) :=
  fun H locs ls hP hD hS hl => lv_lookup C.1 C.2.1 hdg hps ho ht (k H locs ls hP hD hS hl)
/-- a field is read: row q0 of the world, an object of the kind ci, its field k -/
theorem xw_get (C : xw_C p s m args c cc nL own Ts D cl tys A H0) {ref Cn : String} {T : u_T} {N ci index a : Nat} (hin : ∀ w ∈ u_ws Cn T N, w ∈ Ts) (q0 : Nat) {fs : List Value} (he : ws[q0]? = some (a, .inr (ci, fs))) (hc : cl[ci]? = some (Cn, T, N)) (k : Nat) (hk : k < N) (hlink : Cond.fieldLink own index ref (T k).2.1 (T k).2.2.1 ∈ Ts) (hsame : ref = (T k).1) {v : Value} (hv : fs[k]? = some v) (hdg : decode cc pc = .ok (.getfield index, 3)) (hp : pc + 3 = pc')
    (kk : XW p l e R s m args below meth c D cl A H0 nL ws cells slots Q pc' lv (v :: rest)) : XW p l e R s m args below meth c D cl A H0 nL ws cells slots Q pc lv (.ref a :: rest) := by
  subst hp; subst hsame
  exact fun H locs ls hP hD hS hl => va_get (D := D) C.1 C.2.1 C.2.2.2.2.1 hin C.2.2.2.1 C.2.2.2.2.2.1 hP q0 he hc k hk (C.2.2.2.2.1 _ hlink) (fun _ h9 => h9) hv hdg (kk H locs ls hP hD hS hl)
theorem xw_put (C : xw_C p s m args c cc nL own Ts D cl tys A H0) {ref Cn : String} {T : u_T} {N ci index a : Nat} (hin : ∀ w ∈ u_ws Cn T N, w ∈ Ts) (ty0 : Nat → FieldType) (hty : ∀ k, k < N → parseFieldDescriptor (T k).2.2.1 = some (ty0 k)) (hnm : ∀ a, a < N → ∀ b, b < N → a ≠ b → (T a).2.1 ≠ (T b).2.1) (q0 : Nat) {fs : List Value} (he : ws[q0]? = some (a, .inr (ci, fs))) (hc : cl[ci]? = some (Cn, T, N)) (k : Nat) (hk : k < N) (hlink : Cond.fieldLink own index ref (T k).2.1 (T k).2.2.1 ∈ Ts) (hsame : ref = (T k).1) (hfin : (T k).2.2.2 = false) {ty : FieldType} {v : Value} (hd : parseFieldDescriptor (T k).2.2.1 = some ty) (hn : narrow ty v = v) (hfit : fits ty v = true) (hlen : k < fs.length) {ws' : va_W} (hws : ws.set q0 (a, .inr (ci, fs.set k v)) = ws') (hdg : decode cc pc = .ok (.putfield index, 3)) (hp : pc + 3 = pc')
    (kk : XW p l e R s m args below meth c D cl A H0 nL ws' cells slots Q pc' lv rest) : XW p l e R s m args below meth c D cl A H0 nL ws cells slots Q pc lv (v :: .ref a :: rest) := by
  subst hp; subst hsame; subst hws
  exact fun H locs ls hP hD hS hl => va_put (D := D) C.1 C.2.1 C.2.2.2.2.1 hin ty0 hty hnm C.2.2.2.1 C.2.2.2.2.2.1 hP hD hS q0 he hc k hk (C.2.2.2.2.1 _ hlink) (fun _ h9 => h9) hfin hd hn hfit hlen hdg (fun H1 locs1 hP1 hD1 hS1 => kk H1 locs1 ls hP1 hD1 hS1 hl)
theorem xw_iald (C : xw_C p s m args c cc nL own Ts D cl tys A H0) (q0 t0 : Nat) {cA : ClassId} {n a : Nat} {f : Nat → Int32} (ha : ws[q0]? = some (a, .inl (cA, n, .inl f))) (ht : tys[t0]? = some (cA, .int)) {i : Int32} (j : Nat) (hi : i = nI j) (hj : j < n) (hn : n < 2 ^ 31) (hdg : decode cc pc = .ok (.iaload, 1)) (hp : pc + 1 = pc')
    (kk : XW p l e R s m args below meth c D cl A H0 nL ws cells slots Q pc' lv (.int (f j) :: rest)) : XW p l e R s m args below meth c D cl A H0 nL ws cells slots Q pc lv (.int i :: .ref a :: rest) := by
  subst hp; subst hi
  refine fun H locs ls hP hD hS hl => va_iald C.1 C.2.1 C.2.2.2.2.2.1 hP q0 t0 ha ht (vp_in_nI hj hn) hdg ?_
  rw [nI_clamp (by omega)]
  exact kk H locs ls hP hD hS hl
theorem xw_zald (C : xw_C p s m args c cc nL own Ts D cl tys A H0) (q0 t0 : Nat) {cA : ClassId} {n a : Nat} {f : Nat → Int32} (ha : ws[q0]? = some (a, .inl (cA, n, .inl f))) (ht : tys[t0]? = some (cA, .boolean)) {i : Int32} (j : Nat) (hi : i = nI j) (hj : j < n) (hn : n < 2 ^ 31) (hdg : decode cc pc = .ok (.baload, 1)) (hp : pc + 1 = pc')
    (kk : XW p l e R s m args below meth c D cl A H0 nL ws cells slots Q pc' lv (.int (f j) :: rest)) : XW p l e R s m args below meth c D cl A H0 nL ws cells slots Q pc lv (.int i :: .ref a :: rest) := by
  subst hp; subst hi
  refine fun H locs ls hP hD hS hl => va_zald C.1 C.2.1 C.2.2.2.2.2.1 hP q0 t0 ha ht (vp_in_nI hj hn) hdg ?_
  rw [nI_clamp (by omega)]
  exact kk H locs ls hP hD hS hl
theorem xw_iast (C : xw_C p s m args c cc nL own Ts D cl tys A H0) (q0 t0 : Nat) {cA : ClassId} {n a : Nat} {f : Nat → Int32} (ha : ws[q0]? = some (a, .inl (cA, n, .inl f))) (ht : tys[t0]? = some (cA, .int)) {i x : Int32} (j : Nat) (hi : i = nI j) (hj : j < n) (hn : n < 2 ^ 31) {ws' : va_W} (hws : ws.set q0 (a, .inl (cA, n, .inl (upd f j x))) = ws') (hdg : decode cc pc = .ok (.iastore, 1)) (hp : pc + 1 = pc')
    (kk : XW p l e R s m args below meth c D cl A H0 nL ws' cells slots Q pc' lv rest) : XW p l e R s m args below meth c D cl A H0 nL ws cells slots Q pc lv (.int x :: .int i :: .ref a :: rest) := by
  subst hp; subst hi; subst hws
  refine fun H locs ls hP hD hS hl => va_iast C.1 C.2.1 C.2.2.2.2.2.1 hP hD hS q0 t0 ha ht (vp_in_nI hj hn) hdg (fun H1 locs1 hP1 hD1 hS1 => ?_)
  rw [nI_clamp (by omega)] at hP1 hD1
  exact kk H1 locs1 ls hP1 hD1 hS1 hl
theorem xw_zast (C : xw_C p s m args c cc nL own Ts D cl tys A H0) (q0 t0 : Nat) {cA : ClassId} {n a : Nat} {f : Nat → Int32} (ha : ws[q0]? = some (a, .inl (cA, n, .inl f))) (ht : tys[t0]? = some (cA, .boolean)) {i x : Int32} (j : Nat) (hi : i = nI j) (hj : j < n) (hn : n < 2 ^ 31) {ws' : va_W} (hws : ws.set q0 (a, .inl (cA, n, .inl (upd f j (vp_nar .boolean x)))) = ws') (hdg : decode cc pc = .ok (.bastore, 1)) (hp : pc + 1 = pc')
    (kk : XW p l e R s m args below meth c D cl A H0 nL ws' cells slots Q pc' lv rest) : XW p l e R s m args below meth c D cl A H0 nL ws cells slots Q pc lv (.int x :: .int i :: .ref a :: rest) := by
  subst hp; subst hi; subst hws
  refine fun H locs ls hP hD hS hl => va_zast C.1 C.2.1 C.2.2.2.2.2.1 hP hD hS q0 t0 ha ht (vp_in_nI hj hn) hdg (fun H1 locs1 hP1 hD1 hS1 => ?_)
  rw [nI_clamp (by omega)] at hP1 hD1
  exact kk H1 locs1 ls hP1 hD1 hS1 hl
theorem xw_lald (C : xw_C p s m args c cc nL own Ts D cl tys A H0) (q0 t0 : Nat) {cA : ClassId} {n a : Nat} {f : Nat → Int64} (ha : ws[q0]? = some (a, .inl (cA, n, .inr (.inl f)))) (ht : tys[t0]? = some (cA, .long)) {i : Int32} (j : Nat) (hi : i = nI j) (hj : j < n) (hn : n < 2 ^ 31) (hdg : decode cc pc = .ok (.laload, 1)) (hp : pc + 1 = pc')
    (kk : XW p l e R s m args below meth c D cl A H0 nL ws cells slots Q pc' lv (.long (f j) :: rest)) : XW p l e R s m args below meth c D cl A H0 nL ws cells slots Q pc lv (.int i :: .ref a :: rest) := by
  subst hp; subst hi
  refine fun H locs ls hP hD hS hl => va_lald C.1 C.2.1 C.2.2.2.2.2.1 hP q0 t0 ha ht (vp_in_nI hj hn) hdg ?_
  rw [nI_clamp (by omega)]
  exact kk H locs ls hP hD hS hl
theorem xw_last (C : xw_C p s m args c cc nL own Ts D cl tys A H0) (q0 t0 : Nat) {cA : ClassId} {n a : Nat} {f : Nat → Int64} (ha : ws[q0]? = some (a, .inl (cA, n, .inr (.inl f)))) (ht : tys[t0]? = some (cA, .long)) {i : Int32} {x : Int64} (j : Nat) (hi : i = nI j) (hj : j < n) (hn : n < 2 ^ 31) {ws' : va_W} (hws : ws.set q0 (a, .inl (cA, n, .inr (.inl (vp_updL f j x)))) = ws') (hdg : decode cc pc = .ok (.lastore, 1)) (hp : pc + 1 = pc')
    (kk : XW p l e R s m args below meth c D cl A H0 nL ws' cells slots Q pc' lv rest) : XW p l e R s m args below meth c D cl A H0 nL ws cells slots Q pc lv (.long x :: .int i :: .ref a :: rest) := by
  subst hp; subst hi; subst hws
  refine fun H locs ls hP hD hS hl => va_last C.1 C.2.1 C.2.2.2.2.2.1 hP hD hS q0 t0 ha ht (vp_in_nI hj hn) hdg (fun H1 locs1 hP1 hD1 hS1 => ?_)
  rw [nI_clamp (by omega)] at hP1 hD1
  exact kk H1 locs1 ls hP1 hD1 hS1 hl
theorem xw_aald (C : xw_C p s m args c cc nL own Ts D cl tys A H0) (q0 t0 : Nat) {cA : ClassId} {Cn : String} {n a b : Nat} {f : Nat → Option Nat} (ha : ws[q0]? = some (a, .inl (cA, n, .inr (.inr (.inr (.inr f)))))) (ht : tys[t0]? = some (cA, .object Cn)) {i : Int32} (j : Nat) (hi : i = nI j) (hj : j < n) (hn : n < 2 ^ 31) (hf : f j = some b) (hdg : decode cc pc = .ok (.aaload, 1)) (hp : pc + 1 = pc')
    (kk : XW p l e R s m args below meth c D cl A H0 nL ws cells slots Q pc' lv (.ref b :: rest)) : XW p l e R s m args below meth c D cl A H0 nL ws cells slots Q pc lv (.int i :: .ref a :: rest) := by
  subst hp; subst hi
  refine fun H locs ls hP hD hS hl => va_aldq C.1 C.2.1 C.2.2.2.2.2.1 hP q0 t0 ha ht (vp_in_nI hj hn) hdg ?_
  rw [nI_clamp (by omega), hf]
  exact kk H locs ls hP hD hS hl
theorem xw_alen (C : xw_C p s m args c cc nL own Ts D cl tys A H0) (q0 t0 : Nat) {cA : ClassId} {x : vp_A} {a : Nat} (ha : ws[q0]? = some (a, .inl (cA, x))) {ty : FieldType} (ht : tys[t0]? = some (cA, ty)) {v : Int32} (hv : Int32.ofNat x.1 = v) (hdg : decode cc pc = .ok (.arraylength, 1)) (hp : pc + 1 = pc')
    (kk : XW p l e R s m args below meth c D cl A H0 nL ws cells slots Q pc' lv (.int v :: rest)) : XW p l e R s m args below meth c D cl A H0 nL ws cells slots Q pc lv (.ref a :: rest) := by
  subst hp
  exact fun H locs ls hP hD hS hl => va_alen C.1 C.2.1 C.2.2.2.2.2.1 hP q0 t0 ha ht hv hdg (kk H locs ls hP hD hS hl)
/-- the world before a method and behind it -/
def xw_U (D : va_G) (cl : List vw_C) (tys : List (ClassId × FieldType)) (W0 : va_W) (sz : Nat) (K : State → Prop) : State → Prop := fun U => U.heap.size = sz ∧ va_P D cl W0 U.heap ∧ va_K D cl tys U ∧ va_D (fun _ => True) W0 ∧ K U
def xw_B {S : Type} (D : va_G) (cl : List vw_C) (tys : List (ClassId × FieldType)) (A : Nat → Prop) (F : S → va_W) : S → State → Prop := fun u t => va_P D cl (F u) t.heap ∧ va_K D cl tys t ∧ va_D A (F u)
/-- contracts: an int comes back, or nothing; from a world W0, a world F u behind it -/
def xw_Mi {S : Type} (l : Launch) (y : MethodName) (ws0 : List Cond) (rm : Room) (D : va_G) (cl : List vw_C) (tys : List (ClassId × FieldType)) (av : List Value) (W0 : va_W) (K : State → Prop) (mc ms : Nat) (F : S → va_W) (post : Int32 → S → Prop) : Prop :=
  ∀ sz, Met l y ws0 rm (va_Pc av (xw_U D cl tys W0 sz K)) (va_Qi post (xw_B D cl tys (va_A W0 sz) F) (va_A W0 sz)) mc ms (va_A W0 sz)
def xw_Mv {S : Type} (l : Launch) (y : MethodName) (ws0 : List Cond) (rm : Room) (D : va_G) (cl : List vw_C) (tys : List (ClassId × FieldType)) (av : List Value) (W0 : va_W) (K : State → Prop) (mc ms : Nat) (F : S → va_W) (post : S → Prop) : Prop :=
  ∀ sz, Met l y ws0 rm (va_Pc av (xw_U D cl tys W0 sz K)) (va_Qv post (xw_B D cl tys (va_A W0 sz) F) (va_A W0 sz)) mc ms (va_A W0 sz)
theorem xw_met {y : MethodName} {ws0 : List Cond} {rm : Room} {Qc : Array Value → State → Outcome → State → Prop} {mc ms maxL sz : Nat} {ret : Option FieldType} {av : List Value} {W0 : va_W} {K : State → Prop}
    (hy : plainName y.cls = true) (hw : ws0 = Cond.code y cc maxL ret :: Ts) (hn : (lg_sl av).length ≤ maxL)
    (body : ∀ (p : Program) (e : Env) (s : State) (m : MethodId) (args : Array Value) (below : List Frame) (meth : Method) (c : Code), meth.sig.returnType = ret → meth.locks = false → meth.name = y.name → s.heap.size = sz → K s → xw_C p s m args c cc maxL y.cls Ts D cl tys (va_A W0 sz) s.heap →
      XW p l e rm s m args below meth c D cl (va_A W0 sz) s.heap maxL W0 0 0 (MQ below Qc args s mc ms (va_A W0 sz)) 0 (lv_args 0 av) []) :
    Met l y ws0 rm (va_Pc av (xw_U D cl tys W0 sz K)) Qc mc ms (va_A W0 sz) := by
  refine Met.ofW (cc := cc) (maxL := maxL) (ret := ret) hy hw ?_
  intro p e s m args below meth c s₁ B hml hv
  obtain ⟨rfl, hsz, hP, hK, hD, hk⟩ := hv
  have hts : ∀ w ∈ Ts, w.before _ s = true := fun w h => atoms_spec (ws := ws0) B.pre w (by rw [hw]; exact List.mem_cons_of_mem _ h)
  have hown : s.vm.findClass y.cls = some m.cls := findClass_of_methodNamed B.named
  rw [lg_entry_eq]
  refine body p e s m _ below meth c B.returns B.notSynchronized (name_of_methodNamed B.named B.method).1 hsz hk ⟨B.exec, B.bytes, hml, hown, hts, hK, ?_⟩ s.heap [] _ hP ?_ va_S.rf (lv_entry av hn)
  · intro q h
    exact Or.inr (by omega)
  · exact hD.self
theorem xw_iret (C : xw_C p s m args c cc nL own Ts D cl tys A s.heap) (hr : meth.sig.returnType = some .int) (hlk : meth.locks = false) {S : Type} {post : Int32 → S → Prop} {F : S → va_W} {v : Int32} (u : S) (hF : F u = ws) (hu : post v u) (hdg : decode cc pc = .ok (.ireturn, 1)) :
    XW p l e R s m args below meth c D cl A s.heap nL ws cells slots (MQ below (va_Qi post (xw_B D cl tys A F) A) args s cells slots A) pc lv [.int v] := by
  subst hF
  exact fun H locs ls hP hD hS hl => W.iret (v := v) C.1 C.2.1 hr (fun t ht hW => ⟨⟨v, u, rfl, hu, by rw [ht]; exact hP, va_K.moved hW.alike C.2.2.2.2.2.1, hD⟩, hS.F ht⟩) hS.2.2 hdg hlk
theorem xw_zret (C : xw_C p s m args c cc nL own Ts D cl tys A s.heap) {ty : FieldType} (hr : meth.sig.returnType = some ty) (hlk : meth.locks = false) {S : Type} {post : Int32 → S → Prop} {F : S → va_W} {v : Int32} (hn : narrow ty (.int v) = .int v) (u : S) (hF : F u = ws) (hu : post v u) (hdg : decode cc pc = .ok (.ireturn, 1)) :
    XW p l e R s m args below meth c D cl A s.heap nL ws cells slots (MQ below (va_Qi post (xw_B D cl tys A F) A) args s cells slots A) pc lv [.int v] := by
  subst hF
  exact fun H locs ls hP hD hS hl => W.zret (v := v) C.1 C.2.1 hr hn (fun t ht hW => ⟨⟨v, u, rfl, hu, by rw [ht]; exact hP, va_K.moved hW.alike C.2.2.2.2.2.1, hD⟩, hS.F ht⟩) hS.2.2 hdg hlk
theorem xw_vret (C : xw_C p s m args c cc nL own Ts D cl tys A s.heap) (hr : meth.sig.returnType = none) (hlk : meth.locks = false) {S : Type} {post : S → Prop} {F : S → va_W} (u : S) (hF : F u = ws) (hu : post u) (hdg : decode cc pc = .ok (.return_, 1)) :
    XW p l e R s m args below meth c D cl A s.heap nL ws cells slots (MQ below (va_Qv post (xw_B D cl tys A F) A) args s cells slots A) pc lv [] := by
  subst hF
  exact fun H locs ls hP hD hS hl => W.vret C.1 C.2.1 hr (fun t ht hW => ⟨⟨u, rfl, hu, by rw [ht]; exact hP, va_K.moved hW.alike C.2.2.2.2.2.1, hD⟩, hS.F ht⟩) hS.2.2 hdg hlk
theorem xw_free {H : Heap} {locs : List Loc} (hD : va_D A ws) (hS : va_S A H0 H locs) (hA : ∀ q, H0.size ≤ q → A q) : ∀ q, va_A ws H.size q → A q := by
  intro q h
  rcases h with ⟨k, e, h⟩ | h
  · exact hD.2 k _ h
  · exact hA q (Nat.le_trans hS.1 h)
theorem xw_blind {av : List Value} {W0 : va_W} {sz : Nat} {K : State → Prop} (hKb : ∀ (U : State) (g : JFrame) (mk : MethodId) (a : Array Value), K U → K (U.calling g mk a)) : FrameBlind (va_Pc av (xw_U D cl tys W0 sz K)) := fun a U g mk q => by
  obtain ⟨q0, q1, qP, qK, qD, qk⟩ := q
  exact ⟨q0, q1, qP, va_K.moved (u := U) (U := U.calling g mk a) (Vm.Alike.refl U.vm) qK, qD, hKb U g mk a qk⟩
/-- a call on an object of the world: an int comes back -/
theorem xw_callVi (C : xw_C p s m args c cc nL own Ts D cl tys A H0) {S : Type} {y : MethodName} {ws1 : List Cond} {rm : Room} {b : Nat} {As : List Value} {K : State → Prop} {mc ms : Nat} {F : S → va_W} {post : Int32 → S → Prop} {Cn : String} {index maxL n : Nat} {bytes : ByteArray} {ret : Option FieldType} {q : vw_C} {fs : List Value}
    (hM : xw_Mi l y ws1 rm D cl tys (.ref b :: As) ws K mc ms F post) (cw : CallW R s args own Cn index y bytes maxL ret ws1 rm mc ms n) (q0 : Nat) {ci : Nat} (he : ws[q0]? = some (b, .inr (ci, fs))) (hc : cl[ci]? = some q) (hq : q.1 = Cn)
    (hKb : ∀ (U : State) (g : JFrame) (mk : MethodId) (a : Array Value), K U → K (U.calling g mk a)) (hKc : ∀ (H : Heap) (locs : List Loc) (U : State), va_D A ws → va_S A H0 H locs → U.heap = H → s.WarmedH U.vm → K U)
    (hn : As.length = n) (hst : st = As.reverse ++ .ref b :: rest) (hW8 : (rest.map fun v => v.category).sum ≤ 8) (hdg : decode cc pc = .ok (.invokevirtual index, 3)) (hf : cells + mc ≤ R.cells ∧ slots + ms ≤ R.slots) (hp : pc + 3 = pc')
    (kk : ∀ (r : Int32) (u : S), post r u → XW p l e R s m args below meth c D cl A H0 nL (F u) (cells + mc) (slots + ms) Q pc' lv (.int r :: rest)) : XW p l e R s m args below meth c D cl A H0 nL ws cells slots Q pc lv st := by
  subst hp; subst hq
  intro H locs ls hP hD hS hl
  have hFc := xw_free hD hS C.2.2.2.2.2.2
  refine va_calli (va_runV (rest := rest) ⟨C.1, C.2.1, C.2.2.1, C.2.2.2.1, C.2.2.2.2.1⟩ (hM H.size) cw ⟨xw_blind hKb, va_recv C.2.2.2.2.2.1 hP hc he, fun U hU hW => ⟨rfl, by rw [hU], by rw [hU]; exact hP, va_K.moved hW.alike C.2.2.2.2.2.1, hD.weaken (fun _ _ _ _ => trivial), hKc H locs U hD hS hU hW⟩⟩ rfl hn hl.1 hst (lv_room hW8) hdg hf) hS (fun q _ h => hFc q h) hFc (fun r u t H1 locs1 ht hvm hpost hB hz1 hk1 hS1 => ?_)
  obtain ⟨hP1, hK1, hD1⟩ := hB
  rw [ht] at hP1
  exact kk r u hpost H1 locs1 ls hP1 (hD1.weaken (fun k q _ h => hFc _ h)) hS1 hl
theorem xw_callVv (C : xw_C p s m args c cc nL own Ts D cl tys A H0) {S : Type} {y : MethodName} {ws1 : List Cond} {rm : Room} {b : Nat} {As : List Value} {K : State → Prop} {mc ms : Nat} {F : S → va_W} {post : S → Prop} {Cn : String} {index maxL n : Nat} {bytes : ByteArray} {ret : Option FieldType} {q : vw_C} {fs : List Value}
    (hM : xw_Mv l y ws1 rm D cl tys (.ref b :: As) ws K mc ms F post) (cw : CallW R s args own Cn index y bytes maxL ret ws1 rm mc ms n) (q0 : Nat) {ci : Nat} (he : ws[q0]? = some (b, .inr (ci, fs))) (hc : cl[ci]? = some q) (hq : q.1 = Cn)
    (hKb : ∀ (U : State) (g : JFrame) (mk : MethodId) (a : Array Value), K U → K (U.calling g mk a)) (hKc : ∀ (H : Heap) (locs : List Loc) (U : State), va_D A ws → va_S A H0 H locs → U.heap = H → s.WarmedH U.vm → K U)
    (hn : As.length = n) (hst : st = As.reverse ++ .ref b :: rest) (hW8 : (rest.map fun v => v.category).sum ≤ 8) (hdg : decode cc pc = .ok (.invokevirtual index, 3)) (hf : cells + mc ≤ R.cells ∧ slots + ms ≤ R.slots) (hp : pc + 3 = pc')
    (kk : ∀ (u : S), post u → XW p l e R s m args below meth c D cl A H0 nL (F u) (cells + mc) (slots + ms) Q pc' lv rest) : XW p l e R s m args below meth c D cl A H0 nL ws cells slots Q pc lv st := by
  subst hp; subst hq
  intro H locs ls hP hD hS hl
  have hFc := xw_free hD hS C.2.2.2.2.2.2
  refine va_callv (va_runV (rest := rest) ⟨C.1, C.2.1, C.2.2.1, C.2.2.2.1, C.2.2.2.2.1⟩ (hM H.size) cw ⟨xw_blind hKb, va_recv C.2.2.2.2.2.1 hP hc he, fun U hU hW => ⟨rfl, by rw [hU], by rw [hU]; exact hP, va_K.moved hW.alike C.2.2.2.2.2.1, hD.weaken (fun _ _ _ _ => trivial), hKc H locs U hD hS hU hW⟩⟩ rfl hn hl.1 hst (lv_room hW8) hdg hf) hS (fun q _ h => hFc q h) hFc (fun u t H1 locs1 ht hvm hpost hB hz1 hk1 hS1 => ?_)
  obtain ⟨hP1, hK1, hD1⟩ := hB
  rw [ht] at hP1
  exact kk u hpost H1 locs1 ls hP1 (hD1.weaken (fun k q _ h => hFc _ h)) hS1 hl
theorem xw_callSi (C : xw_C p s m args c cc nL own Ts D cl tys A H0) {S : Type} {y : MethodName} {ws1 : List Cond} {rm : Room} {As : List Value} {K : State → Prop} {mc ms : Nat} {F : S → va_W} {post : Int32 → S → Prop} {index maxL n : Nat} {bytes : ByteArray} {ret : Option FieldType}
    (hM : xw_Mi l y ws1 rm D cl tys As ws K mc ms F post) (cw : CallB R s args own index y bytes maxL ret ws1 rm mc ms n ∧ (Cond.static y).before args s = true)
    (hKb : ∀ (U : State) (g : JFrame) (mk : MethodId) (a : Array Value), K U → K (U.calling g mk a)) (hKc : ∀ (H : Heap) (locs : List Loc) (U : State), va_D A ws → va_S A H0 H locs → U.heap = H → s.WarmedH U.vm → K U)
    (hn : As.length = n) (hst : st = As.reverse ++ rest) (hW8 : (rest.map fun v => v.category).sum ≤ 8) (hdg : decode cc pc = .ok (.invokestatic index, 3)) (hf : cells + mc ≤ R.cells ∧ slots + ms ≤ R.slots) (hp : pc + 3 = pc')
    (kk : ∀ (r : Int32) (u : S), post r u → XW p l e R s m args below meth c D cl A H0 nL (F u) (cells + mc) (slots + ms) Q pc' lv (.int r :: rest)) : XW p l e R s m args below meth c D cl A H0 nL ws cells slots Q pc lv st := by
  subst hp
  intro H locs ls hP hD hS hl
  have hFc := xw_free hD hS C.2.2.2.2.2.2
  refine va_calli (va_runS (rest := rest) ⟨C.1, C.2.1, C.2.2.1, C.2.2.2.1, C.2.2.2.2.1⟩ (hM H.size) cw ⟨xw_blind hKb, fun U hU hW => ⟨rfl, by rw [hU], by rw [hU]; exact hP, va_K.moved hW.alike C.2.2.2.2.2.1, hD.weaken (fun _ _ _ _ => trivial), hKc H locs U hD hS hU hW⟩⟩ rfl hn hl.1 hst (lv_room hW8) hdg hf) hS (fun q _ h => hFc q h) hFc (fun r u t H1 locs1 ht hvm hpost hB hz1 hk1 hS1 => ?_)
  obtain ⟨hP1, hK1, hD1⟩ := hB
  rw [ht] at hP1
  exact kk r u hpost H1 locs1 ls hP1 (hD1.weaken (fun k q _ h => hFc _ h)) hS1 hl
theorem xw_callSv (C : xw_C p s m args c cc nL own Ts D cl tys A H0) {S : Type} {y : MethodName} {ws1 : List Cond} {rm : Room} {As : List Value} {K : State → Prop} {mc ms : Nat} {F : S → va_W} {post : S → Prop} {index maxL n : Nat} {bytes : ByteArray} {ret : Option FieldType}
    (hM : xw_Mv l y ws1 rm D cl tys As ws K mc ms F post) (cw : CallB R s args own index y bytes maxL ret ws1 rm mc ms n ∧ (Cond.static y).before args s = true)
    (hKb : ∀ (U : State) (g : JFrame) (mk : MethodId) (a : Array Value), K U → K (U.calling g mk a)) (hKc : ∀ (H : Heap) (locs : List Loc) (U : State), va_D A ws → va_S A H0 H locs → U.heap = H → s.WarmedH U.vm → K U)
    (hn : As.length = n) (hst : st = As.reverse ++ rest) (hW8 : (rest.map fun v => v.category).sum ≤ 8) (hdg : decode cc pc = .ok (.invokestatic index, 3)) (hf : cells + mc ≤ R.cells ∧ slots + ms ≤ R.slots) (hp : pc + 3 = pc')
    (kk : ∀ (u : S), post u → XW p l e R s m args below meth c D cl A H0 nL (F u) (cells + mc) (slots + ms) Q pc' lv rest) : XW p l e R s m args below meth c D cl A H0 nL ws cells slots Q pc lv st := by
  subst hp
  intro H locs ls hP hD hS hl
  have hFc := xw_free hD hS C.2.2.2.2.2.2
  refine va_callv (va_runS (rest := rest) ⟨C.1, C.2.1, C.2.2.1, C.2.2.2.1, C.2.2.2.2.1⟩ (hM H.size) cw ⟨xw_blind hKb, fun U hU hW => ⟨rfl, by rw [hU], by rw [hU]; exact hP, va_K.moved hW.alike C.2.2.2.2.2.1, hD.weaken (fun _ _ _ _ => trivial), hKc H locs U hD hS hU hW⟩⟩ rfl hn hl.1 hst (lv_room hW8) hdg hf) hS (fun q _ h => hFc q h) hFc (fun u t H1 locs1 ht hvm hpost hB hz1 hk1 hS1 => ?_)
  obtain ⟨hP1, hK1, hD1⟩ := hB
  rw [ht] at hP1
  exact kk u hpost H1 locs1 ls hP1 (hD1.weaken (fun k q _ h => hFc _ h)) hS1 hl
/-- contracts that may throw: an exception E leaves a world too -/
def xw_XC {S : Type} (D : va_G) (cl : List vw_C) (tys : List (ClassId × FieldType)) (A : Nat → Prop) (F : S → va_W) (pe : String → S → Prop) : String → State → State → Prop := vx_X (fun _ : S => True) (fun E u t => pe E u ∧ xw_B D cl tys A F u t) A
def xw_Xi {S : Type} (l : Launch) (y : MethodName) (ws0 : List Cond) (rm : Room) (D : va_G) (cl : List vw_C) (tys : List (ClassId × FieldType)) (av : List Value) (W0 : va_W) (K : State → Prop) (mc ms : Nat) (F : S → va_W) (post : Int32 → S → Prop) (pe : String → S → Prop) : Prop :=
  ∀ sz, vx_Met l y ws0 rm (va_Pc av (xw_U D cl tys W0 sz K)) (va_Qi post (xw_B D cl tys (va_A W0 sz) F) (va_A W0 sz)) (xw_XC D cl tys (va_A W0 sz) F pe) mc ms (va_A W0 sz)
def xw_Xv {S : Type} (l : Launch) (y : MethodName) (ws0 : List Cond) (rm : Room) (D : va_G) (cl : List vw_C) (tys : List (ClassId × FieldType)) (av : List Value) (W0 : va_W) (K : State → Prop) (mc ms : Nat) (F : S → va_W) (post : S → Prop) (pe : String → S → Prop) : Prop :=
  ∀ sz, vx_Met l y ws0 rm (va_Pc av (xw_U D cl tys W0 sz K)) (va_Qv post (xw_B D cl tys (va_A W0 sz) F) (va_A W0 sz)) (xw_XC D cl tys (va_A W0 sz) F pe) mc ms (va_A W0 sz)
theorem xw_metX {y : MethodName} {ws0 : List Cond} {rm : Room} {Qc : Array Value → State → Outcome → State → Prop} {XC : String → State → State → Prop} {mc ms maxL sz : Nat} {ret : Option FieldType} {av : List Value} {W0 : va_W} {K : State → Prop}
    (hy : plainName y.cls = true) (hw : ws0 = Cond.code y cc maxL ret :: Ts) (hn : (lg_sl av).length ≤ maxL)
    (body : ∀ (p : Program) (e : Env) (s : State) (m : MethodId) (args : Array Value) (below : List Frame) (meth : Method) (c : Code), meth.sig.returnType = ret → meth.locks = false → (∀ x ∈ c.exceptionTable.toList, False) → s.heap.size = sz → K s → xw_C p s m args c cc maxL y.cls Ts D cl tys (va_A W0 sz) s.heap →
      XW p l e rm s m args below meth c D cl (va_A W0 sz) s.heap maxL W0 0 0 (vx_MQ below Qc XC args s mc ms (va_A W0 sz)) 0 (lv_args 0 av) []) :
    vx_Met l y ws0 rm (va_Pc av (xw_U D cl tys W0 sz K)) Qc XC mc ms (va_A W0 sz) := by
  refine vx_ofW (cc := cc) (maxL := maxL) (ret := ret) hy hw ?_
  intro p e s m args below meth c s₁ B hml hx hv
  obtain ⟨rfl, hsz, hP, hK, hD, hk⟩ := hv
  have hts : ∀ w ∈ Ts, w.before _ s = true := fun w h => atoms_spec (ws := ws0) B.pre w (by rw [hw]; exact List.mem_cons_of_mem _ h)
  have hown : s.vm.findClass y.cls = some m.cls := findClass_of_methodNamed B.named
  rw [lg_entry_eq]
  refine body p e s m _ below meth c B.returns B.notSynchronized hx hsz hk ⟨B.exec, B.bytes, hml, hown, hts, hK, ?_⟩ s.heap [] _ hP ?_ va_S.rf (lv_entry av hn)
  · intro q h
    exact Or.inr (by omega)
  · exact hD.self
/-- an exception E flies over the frame at pc -/
def XX (p : Program) (l : Launch) (e : Env) (R : Room) (s : State) (m : MethodId) (args : Array Value) (below : List Frame) (meth : Method) (c : Code) (D : va_G) (cl : List vw_C) (A : Nat → Prop) (H0 : Heap) (nL : Nat) (ws : va_W) (cells slots : Nat) (Q : State → Prop) (pc : Nat) (lv : List (Nat × Value)) (E : String) : Prop :=
  ∀ (H : Heap) (locs : List Loc) (ls : Array Slot) (rest : List Value) (q : Nat) (ce : Cell), va_P D cl ws H → va_D A ws → va_S A H0 H locs → lv_has ls nL lv → H[q]? = some ce → ce.vm = .none → s.vm.findClass E = some ce.cls → vx_W p l e R s m args below meth c H locs cells slots Q (F0 m pc ls rest) q
theorem xx_widen {k n : Nat} {E : String} (h1 : cells ≤ k) (h2 : slots ≤ n) (kk : XX p l e R s m args below meth c D cl A H0 nL ws k n Q pc lv E) : XX p l e R s m args below meth c D cl A H0 nL ws cells slots Q pc lv E :=
  fun H locs ls rest q ce hP hD hS hl h3 h4 h5 => vx_widen h1 h2 (kk H locs ls rest q ce hP hD hS hl h3 h4 h5)
theorem xx_out (C : xw_C p s m args c cc nL own Ts D cl tys A s.heap) (hlk : meth.locks = false) (hno : ∀ x ∈ c.exceptionTable.toList, False) {S : Type} {Qc : Array Value → State → Outcome → State → Prop} {F : S → va_W} {pe : String → S → Prop} {E : String} {mc ms : Nat} (u : S) (hF : F u = ws) (hu : pe E u) (hc : cells ≤ mc) (hs : slots ≤ ms) :
    XX p l e R s m args below meth c D cl A s.heap nL ws cells slots (vx_MQ below Qc (xw_XC D cl tys A F pe) args s mc ms A) pc lv E := by
  subst hF
  exact fun H locs ls rest q ce hP hD hS hl h3 h4 h5 => vx_out (fun x hx => (hno x hx).elim) hlk h3 h4 h5 (fun t ht hal => ⟨u, trivial, ⟨hu, by rw [ht]; exact hP, va_K.moved hal C.2.2.2.2.2.1, hD⟩, hS.F ht⟩) hS.2.2 hc hs
theorem xw_iretX (C : xw_C p s m args c cc nL own Ts D cl tys A s.heap) (hr : meth.sig.returnType = some .int) (hlk : meth.locks = false) {S : Type} {post : Int32 → S → Prop} {F : S → va_W} {XC : String → State → State → Prop} {mc ms : Nat} {v : Int32} (u : S) (hF : F u = ws) (hu : post v u) (hdg : decode cc pc = .ok (.ireturn, 1)) (hc : cells ≤ mc) (hs : slots ≤ ms) :
    XW p l e R s m args below meth c D cl A s.heap nL ws cells slots (vx_MQ below (va_Qi post (xw_B D cl tys A F) A) XC args s mc ms A) pc lv [.int v] :=
  fun H locs ls hP hD hS hl => vx_ret (W.widen hc hs (xw_iret C hr hlk u hF hu hdg H locs ls hP hD hS hl))
theorem xw_zretX (C : xw_C p s m args c cc nL own Ts D cl tys A s.heap) {ty : FieldType} (hr : meth.sig.returnType = some ty) (hlk : meth.locks = false) {S : Type} {post : Int32 → S → Prop} {F : S → va_W} {XC : String → State → State → Prop} {mc ms : Nat} {v : Int32} (hn : narrow ty (.int v) = .int v) (u : S) (hF : F u = ws) (hu : post v u) (hdg : decode cc pc = .ok (.ireturn, 1)) (hc : cells ≤ mc) (hs : slots ≤ ms) :
    XW p l e R s m args below meth c D cl A s.heap nL ws cells slots (vx_MQ below (va_Qi post (xw_B D cl tys A F) A) XC args s mc ms A) pc lv [.int v] :=
  fun H locs ls hP hD hS hl => vx_ret (W.widen hc hs (xw_zret C hr hlk hn u hF hu hdg H locs ls hP hD hS hl))
theorem xw_vretX (C : xw_C p s m args c cc nL own Ts D cl tys A s.heap) (hr : meth.sig.returnType = none) (hlk : meth.locks = false) {S : Type} {post : S → Prop} {F : S → va_W} {XC : String → State → State → Prop} {mc ms : Nat} (u : S) (hF : F u = ws) (hu : post u) (hdg : decode cc pc = .ok (.return_, 1)) (hc : cells ≤ mc) (hs : slots ≤ ms) :
    XW p l e R s m args below meth c D cl A s.heap nL ws cells slots (vx_MQ below (va_Qv post (xw_B D cl tys A F) A) XC args s mc ms A) pc lv [] :=
  fun H locs ls hP hD hS hl => vx_ret (W.widen hc hs (xw_vret C hr hlk u hF hu hdg H locs ls hP hD hS hl))
/-- throw new E("text") -/
theorem xw_throwS (C : xw_C p s m args c cc nL own Ts D cl tys A s.heap) (hl0 : l.stackTraces = false) (hlk : meth.locks = false) (hno : ∀ x ∈ c.exceptionTable.toList, False) {S : Type} {Qc : Array Value → State → Outcome → State → Prop} {F : S → va_W} {pe : String → S → Prop} {cls text : String} {names : List String} {ik is ic mc ms sa : Nat}
    (hcls : Bundle.fit cls = true) (hnames : ∀ n ∈ names, Bundle.fit n = true) (hk : Cond.classLink own ik cls ∈ Ts) (hini : Cond.initialized cls ∈ Ts) (hstr : vk_R own is text sa s) (hat : ∀ w ∈ vx_atS own ic cls names, w ∈ Ts)
    (hgood : ∀ w ∈ Cond.classLink own ik cls :: Cond.initialized cls :: vx_atS own ic cls names, vx_ot w = true)
    (hU : vx_Zq Bundle.tN "UNASSIGNED_STACK" Bundle.steD A s s.heap) (hN : vx_Zq Bundle.tN "SUPPRESSED_SENTINEL" Bundle.listD A s s.heap)
    (d0 : decode cc pc = .ok (.new ik, 3)) (d3 : decode cc (pc + 3) = .ok (.dup, 1)) (d4 : decode cc (pc + 4) = .ok (.ldc is, 2)) (d6 : decode cc (pc + 6) = .ok (.invokespecial ic, 3)) (d9 : decode cc (pc + 9) = .ok (.athrow, 1))
    (hRframes : names.length + 3 < R.frames) (hRlocals : (rest.map fun v => v.category).sum + (13 * (names.length + 1) + 43) ≤ R.locals) (hRcells : cells + 1 ≤ R.cells) (hRslots : slots + 6 ≤ R.slots)
    (u : S) (hF : F u = ws) (hu : pe cls u) (hc : cells + 1 ≤ mc) (hs : slots + 6 ≤ ms) :
    XW p l e R s m args below meth c D cl A s.heap nL ws cells slots (vx_MQ below Qc (xw_XC D cl tys A F pe) args s mc ms A) pc lv rest := by
  subst hF
  intro H locs ls hP hD hS hl
  refine vx_throwS C.1 C.2.1 hl0 C.2.2.2.1 hcls hnames (C.2.2.2.2.1 _ hk) (C.2.2.2.2.1 _ hini) hstr (fun w h => C.2.2.2.2.1 _ (hat w h)) hgood hU hN hS (hl.1.trans C.2.2.1.symm) d0 d3 d4 d6 d9 (fun x hx => (hno x hx).elim) hRframes hRlocals hRcells hRslots hlk (fun t hal hsz hkp => ?_) hS.2.2 hc hs
  have hP1 : va_P D cl (F u) t.heap := hP.kept (fun k q hk => hkp q.1 (vx_lt hP hk))
  refine ⟨u, trivial, ⟨hu, hP1, va_K.moved hal C.2.2.2.2.2.1, hD⟩, ?_⟩
  refine ⟨Nat.le_trans hS.1 hsz, fun q h1 h2 => ?_⟩
  rw [hkp q (Nat.lt_of_lt_of_le h1 hS.1)]
  exact hS.2.1 q h1 h2
theorem xw_callXVi (C : xw_C p s m args c cc nL own Ts D cl tys A H0) {S : Type} {y : MethodName} {ws1 : List Cond} {rm : Room} {b : Nat} {As : List Value} {K : State → Prop} {mc ms : Nat} {F : S → va_W} {post : Int32 → S → Prop} {pe : String → S → Prop} {Cn : String} {index maxL n : Nat} {bytes : ByteArray} {ret : Option FieldType} {q : vw_C} {fs : List Value}
    (hM : xw_Xi l y ws1 rm D cl tys (.ref b :: As) ws K mc ms F post pe) (cw : CallW R s args own Cn index y bytes maxL ret ws1 rm mc ms n) (q0 : Nat) {ci : Nat} (he : ws[q0]? = some (b, .inr (ci, fs))) (hc : cl[ci]? = some q) (hq : q.1 = Cn)
    (hKb : ∀ (U : State) (g : JFrame) (mk : MethodId) (a : Array Value), K U → K (U.calling g mk a)) (hKc : ∀ (H : Heap) (locs : List Loc) (U : State), va_D A ws → va_S A H0 H locs → U.heap = H → s.WarmedH U.vm → K U)
    (hn : As.length = n) (hst : st = As.reverse ++ .ref b :: rest) (hW8 : (rest.map fun v => v.category).sum ≤ 8) (hdg : decode cc pc = .ok (.invokevirtual index, 3)) (hf : cells + mc ≤ R.cells ∧ slots + ms ≤ R.slots) (hp : pc + 3 = pc')
    (kx : ∀ (E : String) (u : S), pe E u → XX p l e R s m args below meth c D cl A H0 nL (F u) (cells + mc) (slots + ms) Q pc lv E)
    (kk : ∀ (r : Int32) (u : S), post r u → XW p l e R s m args below meth c D cl A H0 nL (F u) (cells + mc) (slots + ms) Q pc' lv (.int r :: rest)) : XW p l e R s m args below meth c D cl A H0 nL ws cells slots Q pc lv st := by
  subst hp; subst hq
  intro H locs ls hP hD hS hl
  have hFc := xw_free hD hS C.2.2.2.2.2.2
  refine vx_calli (vx_runV (rest := rest) ⟨C.1, C.2.1, C.2.2.1, C.2.2.2.1, C.2.2.2.2.1⟩ (hM H.size) cw ⟨xw_blind hKb, va_recv C.2.2.2.2.2.1 hP hc he, fun U hU hW => ⟨rfl, by rw [hU], by rw [hU]; exact hP, va_K.moved hW.alike C.2.2.2.2.2.1, hD.weaken (fun _ _ _ _ => trivial), hKc H locs U hD hS hU hW⟩⟩ rfl hn hl.1 hst (lv_room hW8) hdg hf) hS (fun q _ h => hFc q h) hFc (fun q _ h => hFc q h) (fun E ce q9 u t H1 locs1 ht hvm _ hB hz1 hk1 hS1 h3 h4 h5 => ?_) (fun r u t H1 locs1 ht hvm hpost hB hz1 hk1 hS1 => ?_)
  · obtain ⟨hpe, hP1, hK1, hD1⟩ := hB
    rw [ht] at hP1
    exact kx E u hpe H1 locs1 ls rest q9 ce hP1 (hD1.weaken (fun k q _ h => hFc _ h)) hS1 hl h3 h4 h5
  · obtain ⟨hP1, hK1, hD1⟩ := hB
    rw [ht] at hP1
    exact kk r u hpost H1 locs1 ls hP1 (hD1.weaken (fun k q _ h => hFc _ h)) hS1 hl
theorem xw_callXVv (C : xw_C p s m args c cc nL own Ts D cl tys A H0) {S : Type} {y : MethodName} {ws1 : List Cond} {rm : Room} {b : Nat} {As : List Value} {K : State → Prop} {mc ms : Nat} {F : S → va_W} {post : S → Prop} {pe : String → S → Prop} {Cn : String} {index maxL n : Nat} {bytes : ByteArray} {ret : Option FieldType} {q : vw_C} {fs : List Value}
    (hM : xw_Xv l y ws1 rm D cl tys (.ref b :: As) ws K mc ms F post pe) (cw : CallW R s args own Cn index y bytes maxL ret ws1 rm mc ms n) (q0 : Nat) {ci : Nat} (he : ws[q0]? = some (b, .inr (ci, fs))) (hc : cl[ci]? = some q) (hq : q.1 = Cn)
    (hKb : ∀ (U : State) (g : JFrame) (mk : MethodId) (a : Array Value), K U → K (U.calling g mk a)) (hKc : ∀ (H : Heap) (locs : List Loc) (U : State), va_D A ws → va_S A H0 H locs → U.heap = H → s.WarmedH U.vm → K U)
    (hn : As.length = n) (hst : st = As.reverse ++ .ref b :: rest) (hW8 : (rest.map fun v => v.category).sum ≤ 8) (hdg : decode cc pc = .ok (.invokevirtual index, 3)) (hf : cells + mc ≤ R.cells ∧ slots + ms ≤ R.slots) (hp : pc + 3 = pc')
    (kx : ∀ (E : String) (u : S), pe E u → XX p l e R s m args below meth c D cl A H0 nL (F u) (cells + mc) (slots + ms) Q pc lv E)
    (kk : ∀ (u : S), post u → XW p l e R s m args below meth c D cl A H0 nL (F u) (cells + mc) (slots + ms) Q pc' lv rest) : XW p l e R s m args below meth c D cl A H0 nL ws cells slots Q pc lv st := by
  subst hp; subst hq
  intro H locs ls hP hD hS hl
  have hFc := xw_free hD hS C.2.2.2.2.2.2
  refine vx_callv (vx_runV (rest := rest) ⟨C.1, C.2.1, C.2.2.1, C.2.2.2.1, C.2.2.2.2.1⟩ (hM H.size) cw ⟨xw_blind hKb, va_recv C.2.2.2.2.2.1 hP hc he, fun U hU hW => ⟨rfl, by rw [hU], by rw [hU]; exact hP, va_K.moved hW.alike C.2.2.2.2.2.1, hD.weaken (fun _ _ _ _ => trivial), hKc H locs U hD hS hU hW⟩⟩ rfl hn hl.1 hst (lv_room hW8) hdg hf) hS (fun q _ h => hFc q h) hFc (fun q _ h => hFc q h) (fun E ce q9 u t H1 locs1 ht hvm _ hB hz1 hk1 hS1 h3 h4 h5 => ?_) (fun u t H1 locs1 ht hvm hpost hB hz1 hk1 hS1 => ?_)
  · obtain ⟨hpe, hP1, hK1, hD1⟩ := hB
    rw [ht] at hP1
    exact kx E u hpe H1 locs1 ls rest q9 ce hP1 (hD1.weaken (fun k q _ h => hFc _ h)) hS1 hl h3 h4 h5
  · obtain ⟨hP1, hK1, hD1⟩ := hB
    rw [ht] at hP1
    exact kk u hpost H1 locs1 ls hP1 (hD1.weaken (fun k q _ h => hFc _ h)) hS1 hl
theorem xw_callXSv (C : xw_C p s m args c cc nL own Ts D cl tys A H0) {S : Type} {y : MethodName} {ws1 : List Cond} {rm : Room} {As : List Value} {K : State → Prop} {mc ms : Nat} {F : S → va_W} {post : S → Prop} {pe : String → S → Prop} {index maxL n : Nat} {bytes : ByteArray} {ret : Option FieldType}
    (hM : xw_Xv l y ws1 rm D cl tys As ws K mc ms F post pe) (cw : CallB R s args own index y bytes maxL ret ws1 rm mc ms n ∧ (Cond.static y).before args s = true)
    (hKb : ∀ (U : State) (g : JFrame) (mk : MethodId) (a : Array Value), K U → K (U.calling g mk a)) (hKc : ∀ (H : Heap) (locs : List Loc) (U : State), va_D A ws → va_S A H0 H locs → U.heap = H → s.WarmedH U.vm → K U)
    (hn : As.length = n) (hst : st = As.reverse ++ rest) (hW8 : (rest.map fun v => v.category).sum ≤ 8) (hdg : decode cc pc = .ok (.invokestatic index, 3)) (hf : cells + mc ≤ R.cells ∧ slots + ms ≤ R.slots) (hp : pc + 3 = pc')
    (kx : ∀ (E : String) (u : S), pe E u → XX p l e R s m args below meth c D cl A H0 nL (F u) (cells + mc) (slots + ms) Q pc lv E)
    (kk : ∀ (u : S), post u → XW p l e R s m args below meth c D cl A H0 nL (F u) (cells + mc) (slots + ms) Q pc' lv rest) : XW p l e R s m args below meth c D cl A H0 nL ws cells slots Q pc lv st := by
  subst hp
  intro H locs ls hP hD hS hl
  have hFc := xw_free hD hS C.2.2.2.2.2.2
  refine vx_callv (vx_runS (rest := rest) ⟨C.1, C.2.1, C.2.2.1, C.2.2.2.1, C.2.2.2.2.1⟩ (hM H.size) cw ⟨xw_blind hKb, fun U hU hW => ⟨rfl, by rw [hU], by rw [hU]; exact hP, va_K.moved hW.alike C.2.2.2.2.2.1, hD.weaken (fun _ _ _ _ => trivial), hKc H locs U hD hS hU hW⟩⟩ rfl hn hl.1 hst (lv_room hW8) hdg hf) hS (fun q _ h => hFc q h) hFc (fun q _ h => hFc q h) (fun E ce q9 u t H1 locs1 ht hvm _ hB hz1 hk1 hS1 h3 h4 h5 => ?_) (fun u t H1 locs1 ht hvm hpost hB hz1 hk1 hS1 => ?_)
  · obtain ⟨hpe, hP1, hK1, hD1⟩ := hB
    rw [ht] at hP1
    exact kx E u hpe H1 locs1 ls rest q9 ce hP1 (hD1.weaken (fun k q _ h => hFc _ h)) hS1 hl h3 h4 h5
  · obtain ⟨hP1, hK1, hD1⟩ := hB
    rw [ht] at hP1
    exact kk u hpost H1 locs1 ls hP1 (hD1.weaken (fun k q _ h => hFc _ h)) hS1 hl
end XWALK
end
section
section ZW
variable {ca : Nat → ClassId} {ad : Nat → Nat} {M : Nat → Nat → Int32}
/-- what lies at row k of the world, r being its numbers -/
def zC (ca : Nat → ClassId) (ad : Nat → Nat) (k : Nat) (r : Nat → Int32) : va_E :=
  if k < 14 then match k with
    | 0 => .inr (6, [.ref (ad 1), .ref (ad 3), .ref (ad 7), .ref (ad 10), .ref (ad 13), .int (r 0), .int (r 1), .int (r 2)])
    | 1 => .inr (5, [.ref (ad 2), .int (r 0)])
    | 2 => .inl (ca 1, 6, .inr (.inr (.inr (.inr (fun j => some (ad (14 + j)))))))
    | 3 => .inr (3, [.ref (ad 4), .ref (ad 5), .ref (ad 6), .int (r 0)])
    | 4 => .inl (ca 0, 60, .inl r)
    | 5 => .inl (ca 0, 60, .inl r)
    | 6 => .inl (ca 0, 60, .inl r)
    | 7 => .inr (2, [.ref (ad 8), .ref (ad 9)])
    | 8 => .inl (ca 0, 6, .inl r)
    | 9 => .inl (ca 0, 6, .inl r)
    | 10 => .inr (1, [.ref (ad 11), .ref (ad 12)])
    | 11 => .inl (ca 0, 64, .inl r)
    | 12 => .inl (ca 0, 16, .inl r)
    | _ => .inl (ca 0, 240, .inl r)
  else if k < 20 then .inr (4, [.int (r 0), .int (r 1), .int (r 2), .int (r 3), .int (r 4), .ref (ad (k + 6)), .ref (ad (k + 18))])
  else if k < 26 then .inr (0, [.ref (ad (k + 6)), .int (r 0), .int (r 1), .int (r 2), .int (r 3)])
  else if k < 38 then .inl (ca 0, 4, .inl r)
  else match k with
    | 38 => .inr (7, [.int (r 0), .int (r 1), .int (r 2), .ref (ad 39), .ref (ad 40), .ref (ad 41), .ref (ad 42), .ref (ad 43), .int (r 3), .ref (ad 44), .ref (ad 45), .ref (ad 46), .ref (ad 47), .ref (ad 48), .int (r 4), .ref (ad 49), .ref (ad 50), .ref (ad 51), .ref (ad 52), .ref (ad 53), .ref (ad 54), .ref (ad 55)])
    | 39 => .inl (ca 0, 6, .inl r)
    | 40 => .inl (ca 0, 6, .inl r)
    | 41 => .inl (ca 0, 6, .inl r)
    | 42 => .inl (ca 0, 6, .inl r)
    | 43 => .inl (ca 0, 6, .inl r)
    | 44 => .inl (ca 0, 60, .inl r)
    | 45 => .inl (ca 0, 60, .inl r)
    | 46 => .inl (ca 0, 60, .inl r)
    | 47 => .inl (ca 0, 64, .inl r)
    | 48 => .inl (ca 0, 16, .inl r)
    | 49 => .inl (ca 2, 6, .inl r)
    | 50 => .inl (ca 0, 6, .inl r)
    | 51 => .inl (ca 0, 6, .inl r)
    | 52 => .inl (ca 0, 6, .inl r)
    | 53 => .inl (ca 0, 24, .inl r)
    | 54 => .inl (ca 0, 24, .inl r)
    | 55 => .inl (ca 0, 240, .inl r)
    | _ => .inl (ca 3, 1, .inr (.inl (fun j => (r j).toInt64)))
def zW (ca : Nat → ClassId) (ad : Nat → Nat) (M : Nat → Nat → Int32) : va_W := (List.range 57).map (fun k => (ad k, zC ca ad k (M k)))
abbrev zT (ca : Nat → ClassId) : List (ClassId × FieldType) := [(ca 0, .int), (ca 1, .object "TabledExecutive$Task"), (ca 2, .boolean), (ca 3, .long)]
theorem z_at {k : Nat} (hk : k < 57) : (zW ca ad M)[k]? = some (ad k, zC ca ad k (M k)) := by
  unfold zW
  rw [List.getElem?_map, List.getElem?_range hk]
  rfl
theorem z_set {k : Nat} (hk : k < 57) (r : Nat → Int32) : (zW ca ad M).set k (ad k, zC ca ad k r) = zW ca ad (va_up M k r) := by
  apply List.ext_getElem?
  intro j
  rw [List.getElem?_set]
  by_cases hj : k = j
  · subst hj
    rw [if_pos rfl, if_pos (by simp [zW]; exact hk), z_at hk, va_up_self]
  · rw [if_neg hj]
    by_cases h2 : j < 57
    · rw [z_at h2, z_at h2, va_up_ne _ _ (Ne.symm hj)]
    · rw [List.getElem?_eq_none (by simp [zW]; omega), List.getElem?_eq_none (by simp [zW]; omega)]
theorem zr_0 : (zW ca ad M)[0]? = some (ad 0, .inr (6, [.ref (ad 1), .ref (ad 3), .ref (ad 7), .ref (ad 10), .ref (ad 13), .int (M 0 0), .int (M 0 1), .int (M 0 2)])) := z_at (k := 0) (by decide)
theorem zs_0_0 (v : Int32) : (zW ca ad M).set 0 (ad 0, .inr (6, ([.ref (ad 1), .ref (ad 3), .ref (ad 7), .ref (ad 10), .ref (ad 13), .int (M 0 0), .int (M 0 1), .int (M 0 2)] : List Value).set 5 (.int v))) = zW ca ad (va_up M 0 (upd (M 0) 0 v)) := z_set (k := 0) (by decide) (upd (M 0) 0 v)
theorem zs_0_1 (v : Int32) : (zW ca ad M).set 0 (ad 0, .inr (6, ([.ref (ad 1), .ref (ad 3), .ref (ad 7), .ref (ad 10), .ref (ad 13), .int (M 0 0), .int (M 0 1), .int (M 0 2)] : List Value).set 6 (.int v))) = zW ca ad (va_up M 0 (upd (M 0) 1 v)) := z_set (k := 0) (by decide) (upd (M 0) 1 v)
theorem zs_0_2 (v : Int32) : (zW ca ad M).set 0 (ad 0, .inr (6, ([.ref (ad 1), .ref (ad 3), .ref (ad 7), .ref (ad 10), .ref (ad 13), .int (M 0 0), .int (M 0 1), .int (M 0 2)] : List Value).set 7 (.int v))) = zW ca ad (va_up M 0 (upd (M 0) 2 v)) := z_set (k := 0) (by decide) (upd (M 0) 2 v)
theorem zr_1 : (zW ca ad M)[1]? = some (ad 1, .inr (5, [.ref (ad 2), .int (M 1 0)])) := z_at (k := 1) (by decide)
theorem zs_1_0 (v : Int32) : (zW ca ad M).set 1 (ad 1, .inr (5, ([.ref (ad 2), .int (M 1 0)] : List Value).set 1 (.int v))) = zW ca ad (va_up M 1 (upd (M 1) 0 v)) := z_set (k := 1) (by decide) (upd (M 1) 0 v)
theorem zr_3 : (zW ca ad M)[3]? = some (ad 3, .inr (3, [.ref (ad 4), .ref (ad 5), .ref (ad 6), .int (M 3 0)])) := z_at (k := 3) (by decide)
theorem zs_3_0 (v : Int32) : (zW ca ad M).set 3 (ad 3, .inr (3, ([.ref (ad 4), .ref (ad 5), .ref (ad 6), .int (M 3 0)] : List Value).set 3 (.int v))) = zW ca ad (va_up M 3 (upd (M 3) 0 v)) := z_set (k := 3) (by decide) (upd (M 3) 0 v)
theorem zr_7 : (zW ca ad M)[7]? = some (ad 7, .inr (2, [.ref (ad 8), .ref (ad 9)])) := z_at (k := 7) (by decide)
theorem zr_10 : (zW ca ad M)[10]? = some (ad 10, .inr (1, [.ref (ad 11), .ref (ad 12)])) := z_at (k := 10) (by decide)
theorem zr_38 : (zW ca ad M)[38]? = some (ad 38, .inr (7, [.int (M 38 0), .int (M 38 1), .int (M 38 2), .ref (ad 39), .ref (ad 40), .ref (ad 41), .ref (ad 42), .ref (ad 43), .int (M 38 3), .ref (ad 44), .ref (ad 45), .ref (ad 46), .ref (ad 47), .ref (ad 48), .int (M 38 4), .ref (ad 49), .ref (ad 50), .ref (ad 51), .ref (ad 52), .ref (ad 53), .ref (ad 54), .ref (ad 55)])) := z_at (k := 38) (by decide)
theorem zs_38_0 (v : Int32) : (zW ca ad M).set 38 (ad 38, .inr (7, ([.int (M 38 0), .int (M 38 1), .int (M 38 2), .ref (ad 39), .ref (ad 40), .ref (ad 41), .ref (ad 42), .ref (ad 43), .int (M 38 3), .ref (ad 44), .ref (ad 45), .ref (ad 46), .ref (ad 47), .ref (ad 48), .int (M 38 4), .ref (ad 49), .ref (ad 50), .ref (ad 51), .ref (ad 52), .ref (ad 53), .ref (ad 54), .ref (ad 55)] : List Value).set 0 (.int v))) = zW ca ad (va_up M 38 (upd (M 38) 0 v)) := z_set (k := 38) (by decide) (upd (M 38) 0 v)
theorem zs_38_1 (v : Int32) : (zW ca ad M).set 38 (ad 38, .inr (7, ([.int (M 38 0), .int (M 38 1), .int (M 38 2), .ref (ad 39), .ref (ad 40), .ref (ad 41), .ref (ad 42), .ref (ad 43), .int (M 38 3), .ref (ad 44), .ref (ad 45), .ref (ad 46), .ref (ad 47), .ref (ad 48), .int (M 38 4), .ref (ad 49), .ref (ad 50), .ref (ad 51), .ref (ad 52), .ref (ad 53), .ref (ad 54), .ref (ad 55)] : List Value).set 1 (.int v))) = zW ca ad (va_up M 38 (upd (M 38) 1 v)) := z_set (k := 38) (by decide) (upd (M 38) 1 v)
theorem zs_38_2 (v : Int32) : (zW ca ad M).set 38 (ad 38, .inr (7, ([.int (M 38 0), .int (M 38 1), .int (M 38 2), .ref (ad 39), .ref (ad 40), .ref (ad 41), .ref (ad 42), .ref (ad 43), .int (M 38 3), .ref (ad 44), .ref (ad 45), .ref (ad 46), .ref (ad 47), .ref (ad 48), .int (M 38 4), .ref (ad 49), .ref (ad 50), .ref (ad 51), .ref (ad 52), .ref (ad 53), .ref (ad 54), .ref (ad 55)] : List Value).set 2 (.int v))) = zW ca ad (va_up M 38 (upd (M 38) 2 v)) := z_set (k := 38) (by decide) (upd (M 38) 2 v)
theorem zs_38_3 (v : Int32) : (zW ca ad M).set 38 (ad 38, .inr (7, ([.int (M 38 0), .int (M 38 1), .int (M 38 2), .ref (ad 39), .ref (ad 40), .ref (ad 41), .ref (ad 42), .ref (ad 43), .int (M 38 3), .ref (ad 44), .ref (ad 45), .ref (ad 46), .ref (ad 47), .ref (ad 48), .int (M 38 4), .ref (ad 49), .ref (ad 50), .ref (ad 51), .ref (ad 52), .ref (ad 53), .ref (ad 54), .ref (ad 55)] : List Value).set 8 (.int v))) = zW ca ad (va_up M 38 (upd (M 38) 3 v)) := z_set (k := 38) (by decide) (upd (M 38) 3 v)
theorem zs_38_4 (v : Int32) : (zW ca ad M).set 38 (ad 38, .inr (7, ([.int (M 38 0), .int (M 38 1), .int (M 38 2), .ref (ad 39), .ref (ad 40), .ref (ad 41), .ref (ad 42), .ref (ad 43), .int (M 38 3), .ref (ad 44), .ref (ad 45), .ref (ad 46), .ref (ad 47), .ref (ad 48), .int (M 38 4), .ref (ad 49), .ref (ad 50), .ref (ad 51), .ref (ad 52), .ref (ad 53), .ref (ad 54), .ref (ad 55)] : List Value).set 14 (.int v))) = zW ca ad (va_up M 38 (upd (M 38) 4 v)) := z_set (k := 38) (by decide) (upd (M 38) 4 v)
theorem zr_2 : (zW ca ad M)[2]? = some (ad 2, .inl (ca 1, 6, .inr (.inr (.inr (.inr (fun j => some (ad (14 + j)))))))) := z_at (k := 2) (by decide)
theorem zr_4 : (zW ca ad M)[4]? = some (ad 4, .inl (ca 0, 60, .inl (M 4))) := z_at (k := 4) (by decide)
theorem zs_4 (j : Nat) (v : Int32) : (zW ca ad M).set 4 (ad 4, .inl (ca 0, 60, .inl (upd (M 4) j v))) = zW ca ad (va_up M 4 (upd (M 4) j v)) := z_set (k := 4) (by decide) (upd (M 4) j v)
theorem zr_5 : (zW ca ad M)[5]? = some (ad 5, .inl (ca 0, 60, .inl (M 5))) := z_at (k := 5) (by decide)
theorem zs_5 (j : Nat) (v : Int32) : (zW ca ad M).set 5 (ad 5, .inl (ca 0, 60, .inl (upd (M 5) j v))) = zW ca ad (va_up M 5 (upd (M 5) j v)) := z_set (k := 5) (by decide) (upd (M 5) j v)
theorem zr_6 : (zW ca ad M)[6]? = some (ad 6, .inl (ca 0, 60, .inl (M 6))) := z_at (k := 6) (by decide)
theorem zs_6 (j : Nat) (v : Int32) : (zW ca ad M).set 6 (ad 6, .inl (ca 0, 60, .inl (upd (M 6) j v))) = zW ca ad (va_up M 6 (upd (M 6) j v)) := z_set (k := 6) (by decide) (upd (M 6) j v)
theorem zr_8 : (zW ca ad M)[8]? = some (ad 8, .inl (ca 0, 6, .inl (M 8))) := z_at (k := 8) (by decide)
theorem zs_8 (j : Nat) (v : Int32) : (zW ca ad M).set 8 (ad 8, .inl (ca 0, 6, .inl (upd (M 8) j v))) = zW ca ad (va_up M 8 (upd (M 8) j v)) := z_set (k := 8) (by decide) (upd (M 8) j v)
theorem zr_9 : (zW ca ad M)[9]? = some (ad 9, .inl (ca 0, 6, .inl (M 9))) := z_at (k := 9) (by decide)
theorem zs_9 (j : Nat) (v : Int32) : (zW ca ad M).set 9 (ad 9, .inl (ca 0, 6, .inl (upd (M 9) j v))) = zW ca ad (va_up M 9 (upd (M 9) j v)) := z_set (k := 9) (by decide) (upd (M 9) j v)
theorem zr_11 : (zW ca ad M)[11]? = some (ad 11, .inl (ca 0, 64, .inl (M 11))) := z_at (k := 11) (by decide)
theorem zs_11 (j : Nat) (v : Int32) : (zW ca ad M).set 11 (ad 11, .inl (ca 0, 64, .inl (upd (M 11) j v))) = zW ca ad (va_up M 11 (upd (M 11) j v)) := z_set (k := 11) (by decide) (upd (M 11) j v)
theorem zr_12 : (zW ca ad M)[12]? = some (ad 12, .inl (ca 0, 16, .inl (M 12))) := z_at (k := 12) (by decide)
theorem zs_12 (j : Nat) (v : Int32) : (zW ca ad M).set 12 (ad 12, .inl (ca 0, 16, .inl (upd (M 12) j v))) = zW ca ad (va_up M 12 (upd (M 12) j v)) := z_set (k := 12) (by decide) (upd (M 12) j v)
theorem zr_13 : (zW ca ad M)[13]? = some (ad 13, .inl (ca 0, 240, .inl (M 13))) := z_at (k := 13) (by decide)
theorem zs_13 (j : Nat) (v : Int32) : (zW ca ad M).set 13 (ad 13, .inl (ca 0, 240, .inl (upd (M 13) j v))) = zW ca ad (va_up M 13 (upd (M 13) j v)) := z_set (k := 13) (by decide) (upd (M 13) j v)
theorem zr_39 : (zW ca ad M)[39]? = some (ad 39, .inl (ca 0, 6, .inl (M 39))) := z_at (k := 39) (by decide)
theorem zs_39 (j : Nat) (v : Int32) : (zW ca ad M).set 39 (ad 39, .inl (ca 0, 6, .inl (upd (M 39) j v))) = zW ca ad (va_up M 39 (upd (M 39) j v)) := z_set (k := 39) (by decide) (upd (M 39) j v)
theorem zr_40 : (zW ca ad M)[40]? = some (ad 40, .inl (ca 0, 6, .inl (M 40))) := z_at (k := 40) (by decide)
theorem zs_40 (j : Nat) (v : Int32) : (zW ca ad M).set 40 (ad 40, .inl (ca 0, 6, .inl (upd (M 40) j v))) = zW ca ad (va_up M 40 (upd (M 40) j v)) := z_set (k := 40) (by decide) (upd (M 40) j v)
theorem zr_41 : (zW ca ad M)[41]? = some (ad 41, .inl (ca 0, 6, .inl (M 41))) := z_at (k := 41) (by decide)
theorem zs_41 (j : Nat) (v : Int32) : (zW ca ad M).set 41 (ad 41, .inl (ca 0, 6, .inl (upd (M 41) j v))) = zW ca ad (va_up M 41 (upd (M 41) j v)) := z_set (k := 41) (by decide) (upd (M 41) j v)
theorem zr_42 : (zW ca ad M)[42]? = some (ad 42, .inl (ca 0, 6, .inl (M 42))) := z_at (k := 42) (by decide)
theorem zs_42 (j : Nat) (v : Int32) : (zW ca ad M).set 42 (ad 42, .inl (ca 0, 6, .inl (upd (M 42) j v))) = zW ca ad (va_up M 42 (upd (M 42) j v)) := z_set (k := 42) (by decide) (upd (M 42) j v)
theorem zr_43 : (zW ca ad M)[43]? = some (ad 43, .inl (ca 0, 6, .inl (M 43))) := z_at (k := 43) (by decide)
theorem zs_43 (j : Nat) (v : Int32) : (zW ca ad M).set 43 (ad 43, .inl (ca 0, 6, .inl (upd (M 43) j v))) = zW ca ad (va_up M 43 (upd (M 43) j v)) := z_set (k := 43) (by decide) (upd (M 43) j v)
theorem zr_44 : (zW ca ad M)[44]? = some (ad 44, .inl (ca 0, 60, .inl (M 44))) := z_at (k := 44) (by decide)
theorem zs_44 (j : Nat) (v : Int32) : (zW ca ad M).set 44 (ad 44, .inl (ca 0, 60, .inl (upd (M 44) j v))) = zW ca ad (va_up M 44 (upd (M 44) j v)) := z_set (k := 44) (by decide) (upd (M 44) j v)
theorem zr_45 : (zW ca ad M)[45]? = some (ad 45, .inl (ca 0, 60, .inl (M 45))) := z_at (k := 45) (by decide)
theorem zs_45 (j : Nat) (v : Int32) : (zW ca ad M).set 45 (ad 45, .inl (ca 0, 60, .inl (upd (M 45) j v))) = zW ca ad (va_up M 45 (upd (M 45) j v)) := z_set (k := 45) (by decide) (upd (M 45) j v)
theorem zr_46 : (zW ca ad M)[46]? = some (ad 46, .inl (ca 0, 60, .inl (M 46))) := z_at (k := 46) (by decide)
theorem zs_46 (j : Nat) (v : Int32) : (zW ca ad M).set 46 (ad 46, .inl (ca 0, 60, .inl (upd (M 46) j v))) = zW ca ad (va_up M 46 (upd (M 46) j v)) := z_set (k := 46) (by decide) (upd (M 46) j v)
theorem zr_47 : (zW ca ad M)[47]? = some (ad 47, .inl (ca 0, 64, .inl (M 47))) := z_at (k := 47) (by decide)
theorem zs_47 (j : Nat) (v : Int32) : (zW ca ad M).set 47 (ad 47, .inl (ca 0, 64, .inl (upd (M 47) j v))) = zW ca ad (va_up M 47 (upd (M 47) j v)) := z_set (k := 47) (by decide) (upd (M 47) j v)
theorem zr_48 : (zW ca ad M)[48]? = some (ad 48, .inl (ca 0, 16, .inl (M 48))) := z_at (k := 48) (by decide)
theorem zs_48 (j : Nat) (v : Int32) : (zW ca ad M).set 48 (ad 48, .inl (ca 0, 16, .inl (upd (M 48) j v))) = zW ca ad (va_up M 48 (upd (M 48) j v)) := z_set (k := 48) (by decide) (upd (M 48) j v)
theorem zr_50 : (zW ca ad M)[50]? = some (ad 50, .inl (ca 0, 6, .inl (M 50))) := z_at (k := 50) (by decide)
theorem zs_50 (j : Nat) (v : Int32) : (zW ca ad M).set 50 (ad 50, .inl (ca 0, 6, .inl (upd (M 50) j v))) = zW ca ad (va_up M 50 (upd (M 50) j v)) := z_set (k := 50) (by decide) (upd (M 50) j v)
theorem zr_51 : (zW ca ad M)[51]? = some (ad 51, .inl (ca 0, 6, .inl (M 51))) := z_at (k := 51) (by decide)
theorem zs_51 (j : Nat) (v : Int32) : (zW ca ad M).set 51 (ad 51, .inl (ca 0, 6, .inl (upd (M 51) j v))) = zW ca ad (va_up M 51 (upd (M 51) j v)) := z_set (k := 51) (by decide) (upd (M 51) j v)
theorem zr_52 : (zW ca ad M)[52]? = some (ad 52, .inl (ca 0, 6, .inl (M 52))) := z_at (k := 52) (by decide)
theorem zs_52 (j : Nat) (v : Int32) : (zW ca ad M).set 52 (ad 52, .inl (ca 0, 6, .inl (upd (M 52) j v))) = zW ca ad (va_up M 52 (upd (M 52) j v)) := z_set (k := 52) (by decide) (upd (M 52) j v)
theorem zr_53 : (zW ca ad M)[53]? = some (ad 53, .inl (ca 0, 24, .inl (M 53))) := z_at (k := 53) (by decide)
theorem zs_53 (j : Nat) (v : Int32) : (zW ca ad M).set 53 (ad 53, .inl (ca 0, 24, .inl (upd (M 53) j v))) = zW ca ad (va_up M 53 (upd (M 53) j v)) := z_set (k := 53) (by decide) (upd (M 53) j v)
theorem zr_54 : (zW ca ad M)[54]? = some (ad 54, .inl (ca 0, 24, .inl (M 54))) := z_at (k := 54) (by decide)
theorem zs_54 (j : Nat) (v : Int32) : (zW ca ad M).set 54 (ad 54, .inl (ca 0, 24, .inl (upd (M 54) j v))) = zW ca ad (va_up M 54 (upd (M 54) j v)) := z_set (k := 54) (by decide) (upd (M 54) j v)
theorem zr_55 : (zW ca ad M)[55]? = some (ad 55, .inl (ca 0, 240, .inl (M 55))) := z_at (k := 55) (by decide)
theorem zs_55 (j : Nat) (v : Int32) : (zW ca ad M).set 55 (ad 55, .inl (ca 0, 240, .inl (upd (M 55) j v))) = zW ca ad (va_up M 55 (upd (M 55) j v)) := z_set (k := 55) (by decide) (upd (M 55) j v)
theorem zr_49 : (zW ca ad M)[49]? = some (ad 49, .inl (ca 2, 6, .inl (M 49))) := z_at (k := 49) (by decide)
theorem zs_49 (j : Nat) (v : Int32) : (zW ca ad M).set 49 (ad 49, .inl (ca 2, 6, .inl (upd (M 49) j v))) = zW ca ad (va_up M 49 (upd (M 49) j v)) := z_set (k := 49) (by decide) (upd (M 49) j v)
theorem zr_56 : (zW ca ad M)[56]? = some (ad 56, .inl (ca 3, 1, .inr (.inl (fun j => (M 56 j).toInt64)))) := z_at (k := 56) (by decide)
theorem zs_56 (j : Nat) (v : Int32) : (zW ca ad M).set 56 (ad 56, .inl (ca 3, 1, .inr (.inl (vp_updL (fun j => (M 56 j).toInt64) j v.toInt64)))) = zW ca ad (va_up M 56 (upd (M 56) j v)) := by
  rw [← z_set (k := 56) (by decide) (upd (M 56) j v)]
  have e : vp_updL (fun j => (M 56 j).toInt64) j v.toInt64 = fun i => (upd (M 56) j v i).toInt64 := by
    funext i
    unfold vp_updL upd
    by_cases h : i = j
    · rw [if_pos h, if_pos h]
    · rw [if_neg h, if_neg h]
  rw [e]
  rfl
theorem zC_Tk {t : Nat} (ht : t < 6) (r : Nat → Int32) : zC ca ad (14 + t) r = .inr (4, [.int (r 0), .int (r 1), .int (r 2), .int (r 3), .int (r 4), .ref (ad (20 + t)), .ref (ad (32 + t))]) := by
  unfold zC
  rw [if_neg (by omega), if_pos (by omega), show 14 + t + 6 = 20 + t by omega, show 14 + t + 18 = 32 + t by omega]
theorem zr_Tk {t : Nat} (ht : t < 6) : (zW ca ad M)[14 + t]? = some (ad (14 + t), .inr (4, [.int (M (14 + t) 0), .int (M (14 + t) 1), .int (M (14 + t) 2), .int (M (14 + t) 3), .int (M (14 + t) 4), .ref (ad (20 + t)), .ref (ad (32 + t))])) := by
  rw [z_at (by omega), zC_Tk ht]
theorem zs_Tk_0 {t : Nat} (ht : t < 6) (v : Int32) : (zW ca ad M).set (14 + t) (ad (14 + t), .inr (4, ([.int (M (14 + t) 0), .int (M (14 + t) 1), .int (M (14 + t) 2), .int (M (14 + t) 3), .int (M (14 + t) 4), .ref (ad (20 + t)), .ref (ad (32 + t))] : List Value).set 0 (.int v))) = zW ca ad (va_up M (14 + t) (upd (M (14 + t)) 0 v)) := by
  rw [← z_set (by omega), zC_Tk ht]
  rfl
theorem zs_Tk_1 {t : Nat} (ht : t < 6) (v : Int32) : (zW ca ad M).set (14 + t) (ad (14 + t), .inr (4, ([.int (M (14 + t) 0), .int (M (14 + t) 1), .int (M (14 + t) 2), .int (M (14 + t) 3), .int (M (14 + t) 4), .ref (ad (20 + t)), .ref (ad (32 + t))] : List Value).set 1 (.int v))) = zW ca ad (va_up M (14 + t) (upd (M (14 + t)) 1 v)) := by
  rw [← z_set (by omega), zC_Tk ht]
  rfl
theorem zs_Tk_2 {t : Nat} (ht : t < 6) (v : Int32) : (zW ca ad M).set (14 + t) (ad (14 + t), .inr (4, ([.int (M (14 + t) 0), .int (M (14 + t) 1), .int (M (14 + t) 2), .int (M (14 + t) 3), .int (M (14 + t) 4), .ref (ad (20 + t)), .ref (ad (32 + t))] : List Value).set 2 (.int v))) = zW ca ad (va_up M (14 + t) (upd (M (14 + t)) 2 v)) := by
  rw [← z_set (by omega), zC_Tk ht]
  rfl
theorem zs_Tk_3 {t : Nat} (ht : t < 6) (v : Int32) : (zW ca ad M).set (14 + t) (ad (14 + t), .inr (4, ([.int (M (14 + t) 0), .int (M (14 + t) 1), .int (M (14 + t) 2), .int (M (14 + t) 3), .int (M (14 + t) 4), .ref (ad (20 + t)), .ref (ad (32 + t))] : List Value).set 3 (.int v))) = zW ca ad (va_up M (14 + t) (upd (M (14 + t)) 3 v)) := by
  rw [← z_set (by omega), zC_Tk ht]
  rfl
theorem zs_Tk_4 {t : Nat} (ht : t < 6) (v : Int32) : (zW ca ad M).set (14 + t) (ad (14 + t), .inr (4, ([.int (M (14 + t) 0), .int (M (14 + t) 1), .int (M (14 + t) 2), .int (M (14 + t) 3), .int (M (14 + t) 4), .ref (ad (20 + t)), .ref (ad (32 + t))] : List Value).set 4 (.int v))) = zW ca ad (va_up M (14 + t) (upd (M (14 + t)) 4 v)) := by
  rw [← z_set (by omega), zC_Tk ht]
  rfl
theorem zC_Jb {t : Nat} (ht : t < 6) (r : Nat → Int32) : zC ca ad (20 + t) r = .inr (0, [.ref (ad (26 + t)), .int (r 0), .int (r 1), .int (r 2), .int (r 3)]) := by
  unfold zC
  rw [if_neg (by omega), if_neg (by omega), if_pos (by omega), show 20 + t + 6 = 26 + t by omega]
theorem zr_Jb {t : Nat} (ht : t < 6) : (zW ca ad M)[20 + t]? = some (ad (20 + t), .inr (0, [.ref (ad (26 + t)), .int (M (20 + t) 0), .int (M (20 + t) 1), .int (M (20 + t) 2), .int (M (20 + t) 3)])) := by
  rw [z_at (by omega), zC_Jb ht]
theorem zs_Jb_0 {t : Nat} (ht : t < 6) (v : Int32) : (zW ca ad M).set (20 + t) (ad (20 + t), .inr (0, ([.ref (ad (26 + t)), .int (M (20 + t) 0), .int (M (20 + t) 1), .int (M (20 + t) 2), .int (M (20 + t) 3)] : List Value).set 1 (.int v))) = zW ca ad (va_up M (20 + t) (upd (M (20 + t)) 0 v)) := by
  rw [← z_set (by omega), zC_Jb ht]
  rfl
theorem zs_Jb_1 {t : Nat} (ht : t < 6) (v : Int32) : (zW ca ad M).set (20 + t) (ad (20 + t), .inr (0, ([.ref (ad (26 + t)), .int (M (20 + t) 0), .int (M (20 + t) 1), .int (M (20 + t) 2), .int (M (20 + t) 3)] : List Value).set 2 (.int v))) = zW ca ad (va_up M (20 + t) (upd (M (20 + t)) 1 v)) := by
  rw [← z_set (by omega), zC_Jb ht]
  rfl
theorem zs_Jb_2 {t : Nat} (ht : t < 6) (v : Int32) : (zW ca ad M).set (20 + t) (ad (20 + t), .inr (0, ([.ref (ad (26 + t)), .int (M (20 + t) 0), .int (M (20 + t) 1), .int (M (20 + t) 2), .int (M (20 + t) 3)] : List Value).set 3 (.int v))) = zW ca ad (va_up M (20 + t) (upd (M (20 + t)) 2 v)) := by
  rw [← z_set (by omega), zC_Jb ht]
  rfl
theorem zs_Jb_3 {t : Nat} (ht : t < 6) (v : Int32) : (zW ca ad M).set (20 + t) (ad (20 + t), .inr (0, ([.ref (ad (26 + t)), .int (M (20 + t) 0), .int (M (20 + t) 1), .int (M (20 + t) 2), .int (M (20 + t) 3)] : List Value).set 4 (.int v))) = zW ca ad (va_up M (20 + t) (upd (M (20 + t)) 3 v)) := by
  rw [← z_set (by omega), zC_Jb ht]
  rfl
theorem zC_rg {t : Nat} (ht : t < 6) (r : Nat → Int32) : zC ca ad (26 + t) r = .inl (ca 0, 4, .inl r) := by
  unfold zC
  rw [if_neg (by omega), if_neg (by omega), if_neg (by omega), if_pos (by omega)]
theorem zr_rg {t : Nat} (ht : t < 6) : (zW ca ad M)[26 + t]? = some (ad (26 + t), .inl (ca 0, 4, .inl (M (26 + t)))) := by
  rw [z_at (by omega), zC_rg ht]
theorem zs_rg {t : Nat} (ht : t < 6) (j : Nat) (v : Int32) : (zW ca ad M).set (26 + t) (ad (26 + t), .inl (ca 0, 4, .inl (upd (M (26 + t)) j v))) = zW ca ad (va_up M (26 + t) (upd (M (26 + t)) j v)) := by
  rw [← z_set (by omega), zC_rg ht]
theorem zC_ct {t : Nat} (ht : t < 6) (r : Nat → Int32) : zC ca ad (32 + t) r = .inl (ca 0, 4, .inl r) := by
  unfold zC
  rw [if_neg (by omega), if_neg (by omega), if_neg (by omega), if_pos (by omega)]
theorem zr_ct {t : Nat} (ht : t < 6) : (zW ca ad M)[32 + t]? = some (ad (32 + t), .inl (ca 0, 4, .inl (M (32 + t)))) := by
  rw [z_at (by omega), zC_ct ht]
theorem zs_ct {t : Nat} (ht : t < 6) (j : Nat) (v : Int32) : (zW ca ad M).set (32 + t) (ad (32 + t), .inl (ca 0, 4, .inl (upd (M (32 + t)) j v))) = zW ca ad (va_up M (32 + t) (upd (M (32 + t)) j v)) := by
  rw [← z_set (by omega), zC_ct ht]
theorem zr_gen {k n : Nat} (hk : k < 57) (hC : ∀ r, zC ca ad k r = .inl (ca 0, n, .inl r)) : (zW ca ad M)[k]? = some (ad k, .inl (ca 0, n, .inl (M k))) := by
  rw [z_at hk, hC]
theorem zs_gen {k n : Nat} (hk : k < 57) (hC : ∀ r, zC ca ad k r = .inl (ca 0, n, .inl r)) (j : Nat) (v : Int32) : (zW ca ad M).set k (ad k, .inl (ca 0, n, .inl (upd (M k) j v))) = zW ca ad (va_up M k (upd (M k) j v)) := by
  rw [← z_set hk, hC]
/-- one number is written -/
def zst (M : Nat → Nat → Int32) (k j : Nat) (v : Int32) : Nat → Nat → Int32 := va_up M k (upd (M k) j v)
theorem zst_ap (M : Nat → Nat → Int32) (k j : Nat) (v : Int32) (a b : Nat) : zst M k j v a b = if a = k ∧ b = j then v else M a b := by
  unfold zst va_up upd
  by_cases h : a = k
  · subst h
    rw [if_pos rfl]
    by_cases h2 : b = j
    · rw [if_pos h2, if_pos ⟨rfl, h2⟩]
    · rw [if_neg h2, if_neg (fun h3 => h2 h3.2)]
  · rw [if_neg h, if_neg (fun h3 => h h3.1)]
/-- a row is filled up to n -/
def zfl (M : Nat → Nat → Int32) (k n : Nat) (v : Int32) : Nat → Nat → Int32 := va_up M k (fun j => if j < n then v else M k j)
theorem zfl_ap (M : Nat → Nat → Int32) (k n : Nat) (v : Int32) (a b : Nat) : zfl M k n v a b = if a = k ∧ b < n then v else M a b := by
  unfold zfl va_up
  by_cases h : a = k
  · subst h
    rw [if_pos rfl]
    by_cases h2 : b < n
    · rw [if_pos h2, if_pos ⟨rfl, h2⟩]
    · rw [if_neg h2, if_neg (fun h3 => h2 h3.2)]
  · rw [if_neg h, if_neg (fun h3 => h h3.1)]
theorem zM_ext {M1 M2 : Nat → Nat → Int32} (h : ∀ a b, M1 a b = M2 a b) : M1 = M2 := funext fun a => funext fun b => h a b
theorem zfl_0 (M : Nat → Nat → Int32) (k : Nat) (v : Int32) : M = zfl M k 0 v := zM_ext fun a b => by rw [zfl_ap, if_neg (fun h => absurd h.2 (Nat.not_lt_zero _))]
theorem zfl_s (M : Nat → Nat → Int32) (k n : Nat) (v : Int32) : zst (zfl M k n v) k n v = zfl M k (n + 1) v := zM_ext fun a b => by
  rw [zst_ap, zfl_ap, zfl_ap]
  by_cases h : a = k
  · by_cases h2 : b = n
    · rw [if_pos ⟨h, h2⟩, if_pos ⟨h, by omega⟩]
    · rw [if_neg (fun h3 => h2 h3.2)]
      by_cases h4 : b < n
      · rw [if_pos ⟨h, h4⟩, if_pos ⟨h, by omega⟩]
      · rw [if_neg (fun h3 => h4 h3.2), if_neg (fun h3 => h4 (by omega))]
  · rw [if_neg (fun h3 => h h3.1), if_neg (fun h3 => h h3.1), if_neg (fun h3 => h h3.1)]
end ZW
end
section
section ZG
variable {p : Program} {l : Launch} {e : Env} {R : Room} {s : State} {m : MethodId} {args : Array Value} {below : List Frame} {meth : Method} {c : Code} {cells slots : Nat} {Q : State → Prop}
variable {cc : ByteArray} {nL pc pc' : Nat} {own : String} {D : va_G} {cl : List vw_C} {tys : List (ClassId × FieldType)} {A : Nat → Prop} {H0 : Heap} {ws : va_W} {lv lv' : List (Nat × Value)} {st : List Value}
theorem xw_lvE (hl' : lv = lv') (kk : XW p l e R s m args below meth c D cl A H0 nL ws cells slots Q pc lv' st) : XW p l e R s m args below meth c D cl A H0 nL ws cells slots Q pc lv st := by
  subst hl'; exact kk
theorem xw_ofW {y : MethodName} {ws0 ws' : List Cond} {rm : Room} {Pc : Array Value → State → Prop} {Qc : Array Value → State → Outcome → State → Prop} {mc ms : Nat} {free : Addr → Prop} {maxL : Nat} {ret : Option FieldType}
    (hy : plainFor y = true) (hw : ws0 = Cond.code y cc maxL ret :: ws')
    (body : ∀ p e s m args below meth c s₁, BodyLoose p l y (headSpec ws0 rm) cc maxL ret e s m args below meth c s₁ → c.maxLocals = maxL → Pc args s →
      W p l e (headSpec ws0 rm).room s m args below meth c s.heap [] 0 0 (MQ below Qc args s mc ms free) (entryFrame m args maxL)) : Met l y ws0 rm Pc Qc mc ms free := by
  refine MetFree.of_bodySF (code := cc) (maxLocals := maxL) (ret := ret) hy ?_ ?_
  · intro args s m h hn
    obtain ⟨meth, c, h1, h2, h3, h4, h5, h6, -, -⟩ := Cond.code_spec hn (atoms_spec (ws := ws0) h _ (by rw [hw]; exact List.mem_cons_self))
    exact ⟨meth, c, h1, h2, h3, h4, h5, h6⟩
  · intro p e s m args below meth c s₁ B hml hP _
    have hh0 : s₁.heap = s.heap := by rw [B.state]; rfl
    obtain ⟨t, a1, o, b1, b2, b3⟩ := body p e s m args below meth c s₁ B hml hP s₁ hh0 (Stand.of_body B)
    exact ⟨t, o, a1, b1, b2, ⟨b3.1, b3.2⟩⟩
theorem xw_metF {y : MethodName} {ws0 : List Cond} {rm : Room} {Qc : Array Value → State → Outcome → State → Prop} {mc ms maxL sz : Nat} {ret : Option FieldType} {av : List Value} {W0 : va_W} {K : State → Prop} {Ts : List Cond}
    (hy : plainFor y = true) (hw : ws0 = Cond.code y cc maxL ret :: Ts) (hn : (lg_sl av).length ≤ maxL)
    (body : ∀ (p : Program) (e : Env) (s : State) (m : MethodId) (args : Array Value) (below : List Frame) (meth : Method) (c : Code), meth.sig.returnType = ret → meth.locks = false → meth.name = y.name → s.heap.size = sz → K s → xw_C p s m args c cc maxL y.cls Ts D cl tys (va_A W0 sz) s.heap →
      XW p l e rm s m args below meth c D cl (va_A W0 sz) s.heap maxL W0 0 0 (MQ below Qc args s mc ms (va_A W0 sz)) 0 (lv_args 0 av) []) :
    Met l y ws0 rm (va_Pc av (xw_U D cl tys W0 sz K)) Qc mc ms (va_A W0 sz) := by
  refine xw_ofW (cc := cc) (maxL := maxL) (ret := ret) hy hw ?_
  intro p e s m args below meth c s₁ B hml hv
  obtain ⟨rfl, hsz, hP, hK, hD, hk⟩ := hv
  have hts : ∀ w ∈ Ts, w.before _ s = true := fun w h => atoms_spec (ws := ws0) B.pre w (by rw [hw]; exact List.mem_cons_of_mem _ h)
  have hown : s.vm.findClass y.cls = some m.cls := findClass_of_methodNamed B.named
  rw [lg_entry_eq]
  refine body p e s m _ below meth c B.returns B.notSynchronized (name_of_methodNamed B.named B.method).1 hsz hk ⟨B.exec, B.bytes, hml, hown, hts, hK, ?_⟩ s.heap [] _ hP ?_ va_S.rf (lv_entry av hn)
  · intro q h
    exact Or.inr (by omega)
  · exact hD.self
theorem zg_in {y : MethodName} {bytes : ByteArray} {maxL : Nat} {ret : Option FieldType} (h5 : Cond.code y bytes maxL ret ∈ zG) : GoodIn zG (Cond.code y bytes maxL ret :: zG) := fun w h => by
  rcases List.mem_cons.mp h with rfl | h
  · exact ⟨h5, good_of_word (zG_good _ h5)⟩
  · exact ⟨h, good_of_word (zG_good _ h)⟩
theorem zg_B (C : xw_C p s m args c cc nL own zG D cl tys A H0) (n : Nat) {index maxL : Nat} {y : MethodName} {bytes : ByteArray} {ret : Option FieldType} {rm : Room} (hl : Cond.methodLink own index y ∈ zG) (hini : Cond.initialized y.cls ∈ zG) (h5 : Cond.code y bytes maxL ret ∈ zG)
    (hd : y.cls ≠ "java/lang/invoke/MethodHandle" ∧ y.cls ≠ "java/lang/invoke/VarHandle" ∧ (parseMethodDescriptor y.desc).map (fun d => d.parameters.length) = some n) (hR : rm.frames + 1 ≤ R.frames ∧ 8 + (maxL + 11) + rm.locals ≤ R.locals) :
    CallB R s args own index y bytes maxL ret (Cond.code y bytes maxL ret :: zG) rm rm.cells rm.slots n :=
  callB_of n C.2.2.2.2.1 (zg_in h5) rfl rfl rfl (C.2.2.2.2.1 _ hini) (C.2.2.2.2.1 _ hl) hd hR
theorem xp_n0 : narrow .boolean (.int (nI 0)) = .int (nI 0) := by decide +kernel
theorem xp_n1 : narrow .boolean (.int (nI 1)) = .int (nI 1) := by decide +kernel
theorem xp_v0 : vp_nar .boolean (nI 0) = nI 0 := by decide +kernel
theorem xp_v1 : vp_nar .boolean (nI 1) = nI 1 := by decide +kernel
theorem q_Ex_init : y_Ex_init.cls ≠ "java/lang/invoke/MethodHandle" ∧ y_Ex_init.cls ≠ "java/lang/invoke/VarHandle" ∧ (parseMethodDescriptor y_Ex_init.desc).map (fun d => d.parameters.length) = some 0 := ⟨by decide +kernel, by decide +kernel, by decide +kernel⟩
theorem q_Tl_init : y_Tl_init.cls ≠ "java/lang/invoke/MethodHandle" ∧ y_Tl_init.cls ≠ "java/lang/invoke/VarHandle" ∧ (parseMethodDescriptor y_Tl_init.desc).map (fun d => d.parameters.length) = some 0 := ⟨by decide +kernel, by decide +kernel, by decide +kernel⟩
theorem q_Tk_init : y_Tk_init.cls ≠ "java/lang/invoke/MethodHandle" ∧ y_Tk_init.cls ≠ "java/lang/invoke/VarHandle" ∧ (parseMethodDescriptor y_Tk_init.desc).map (fun d => d.parameters.length) = some 0 := ⟨by decide +kernel, by decide +kernel, by decide +kernel⟩
theorem q_Jb_init : y_Jb_init.cls ≠ "java/lang/invoke/MethodHandle" ∧ y_Jb_init.cls ≠ "java/lang/invoke/VarHandle" ∧ (parseMethodDescriptor y_Jb_init.desc).map (fun d => d.parameters.length) = some 0 := ⟨by decide +kernel, by decide +kernel, by decide +kernel⟩
theorem q_Tb_init : y_Tb_init.cls ≠ "java/lang/invoke/MethodHandle" ∧ y_Tb_init.cls ≠ "java/lang/invoke/VarHandle" ∧ (parseMethodDescriptor y_Tb_init.desc).map (fun d => d.parameters.length) = some 0 := ⟨by decide +kernel, by decide +kernel, by decide +kernel⟩
theorem q_Pl_init : y_Pl_init.cls ≠ "java/lang/invoke/MethodHandle" ∧ y_Pl_init.cls ≠ "java/lang/invoke/VarHandle" ∧ (parseMethodDescriptor y_Pl_init.desc).map (fun d => d.parameters.length) = some 0 := ⟨by decide +kernel, by decide +kernel, by decide +kernel⟩
theorem q_Mc_init : y_Mc_init.cls ≠ "java/lang/invoke/MethodHandle" ∧ y_Mc_init.cls ≠ "java/lang/invoke/VarHandle" ∧ (parseMethodDescriptor y_Mc_init.desc).map (fun d => d.parameters.length) = some 0 := ⟨by decide +kernel, by decide +kernel, by decide +kernel⟩
theorem q_Ex_round : y_Ex_round.cls ≠ "java/lang/invoke/MethodHandle" ∧ y_Ex_round.cls ≠ "java/lang/invoke/VarHandle" ∧ (parseMethodDescriptor y_Ex_round.desc).map (fun d => d.parameters.length) = some 0 := ⟨by decide +kernel, by decide +kernel, by decide +kernel⟩
theorem q_Tl_commonRound : y_Tl_commonRound.cls ≠ "java/lang/invoke/MethodHandle" ∧ y_Tl_commonRound.cls ≠ "java/lang/invoke/VarHandle" ∧ (parseMethodDescriptor y_Tl_commonRound.desc).map (fun d => d.parameters.length) = some 0 := ⟨by decide +kernel, by decide +kernel, by decide +kernel⟩
theorem q_Tl_isCommonMultiple : y_Tl_isCommonMultiple.cls ≠ "java/lang/invoke/MethodHandle" ∧ y_Tl_isCommonMultiple.cls ≠ "java/lang/invoke/VarHandle" ∧ (parseMethodDescriptor y_Tl_isCommonMultiple.desc).map (fun d => d.parameters.length) = some 1 := ⟨by decide +kernel, by decide +kernel, by decide +kernel⟩
theorem q_Ex_slots : y_Ex_slots.cls ≠ "java/lang/invoke/MethodHandle" ∧ y_Ex_slots.cls ≠ "java/lang/invoke/VarHandle" ∧ (parseMethodDescriptor y_Ex_slots.desc).map (fun d => d.parameters.length) = some 0 := ⟨by decide +kernel, by decide +kernel, by decide +kernel⟩
theorem q_Ex_time : y_Ex_time.cls ≠ "java/lang/invoke/MethodHandle" ∧ y_Ex_time.cls ≠ "java/lang/invoke/VarHandle" ∧ (parseMethodDescriptor y_Ex_time.desc).map (fun d => d.parameters.length) = some 0 := ⟨by decide +kernel, by decide +kernel, by decide +kernel⟩
theorem q_Lw_load : y_Lw_load.cls ≠ "java/lang/invoke/MethodHandle" ∧ y_Lw_load.cls ≠ "java/lang/invoke/VarHandle" ∧ (parseMethodDescriptor y_Lw_load.desc).map (fun d => d.parameters.length) = some 3 := ⟨by decide +kernel, by decide +kernel, by decide +kernel⟩
theorem q_Ex_load : y_Ex_load.cls ≠ "java/lang/invoke/MethodHandle" ∧ y_Ex_load.cls ≠ "java/lang/invoke/VarHandle" ∧ (parseMethodDescriptor y_Ex_load.desc).map (fun d => d.parameters.length) = some 2 := ⟨by decide +kernel, by decide +kernel, by decide +kernel⟩
theorem q_Ex_needEdit : y_Ex_needEdit.cls ≠ "java/lang/invoke/MethodHandle" ∧ y_Ex_needEdit.cls ≠ "java/lang/invoke/VarHandle" ∧ (parseMethodDescriptor y_Ex_needEdit.desc).map (fun d => d.parameters.length) = some 0 := ⟨by decide +kernel, by decide +kernel, by decide +kernel⟩
theorem q_Ex_needIndex : y_Ex_needIndex.cls ≠ "java/lang/invoke/MethodHandle" ∧ y_Ex_needIndex.cls ≠ "java/lang/invoke/VarHandle" ∧ (parseMethodDescriptor y_Ex_needIndex.desc).map (fun d => d.parameters.length) = some 2 := ⟨by decide +kernel, by decide +kernel, by decide +kernel⟩
theorem q_Lw_task : y_Lw_task.cls ≠ "java/lang/invoke/MethodHandle" ∧ y_Lw_task.cls ≠ "java/lang/invoke/VarHandle" ∧ (parseMethodDescriptor y_Lw_task.desc).map (fun d => d.parameters.length) = some 6 := ⟨by decide +kernel, by decide +kernel, by decide +kernel⟩
theorem q_Ex_task : y_Ex_task.cls ≠ "java/lang/invoke/MethodHandle" ∧ y_Ex_task.cls ≠ "java/lang/invoke/VarHandle" ∧ (parseMethodDescriptor y_Ex_task.desc).map (fun d => d.parameters.length) = some 4 := ⟨by decide +kernel, by decide +kernel, by decide +kernel⟩
theorem q_Ex_isTask : y_Ex_isTask.cls ≠ "java/lang/invoke/MethodHandle" ∧ y_Ex_isTask.cls ≠ "java/lang/invoke/VarHandle" ∧ (parseMethodDescriptor y_Ex_isTask.desc).map (fun d => d.parameters.length) = some 4 := ⟨by decide +kernel, by decide +kernel, by decide +kernel⟩
theorem q_Tl_append : y_Tl_append.cls ≠ "java/lang/invoke/MethodHandle" ∧ y_Tl_append.cls ≠ "java/lang/invoke/VarHandle" ∧ (parseMethodDescriptor y_Tl_append.desc).map (fun d => d.parameters.length) = some 4 := ⟨by decide +kernel, by decide +kernel, by decide +kernel⟩
theorem q_Tk_forgetRun : y_Tk_forgetRun.cls ≠ "java/lang/invoke/MethodHandle" ∧ y_Tk_forgetRun.cls ≠ "java/lang/invoke/VarHandle" ∧ (parseMethodDescriptor y_Tk_forgetRun.desc).map (fun d => d.parameters.length) = some 0 := ⟨by decide +kernel, by decide +kernel, by decide +kernel⟩
theorem q_Ar_fill : y_Ar_fill.cls ≠ "java/lang/invoke/MethodHandle" ∧ y_Ar_fill.cls ≠ "java/lang/invoke/VarHandle" ∧ (parseMethodDescriptor y_Ar_fill.desc).map (fun d => d.parameters.length) = some 2 := ⟨by decide +kernel, by decide +kernel, by decide +kernel⟩
theorem q_Lw_entry : y_Lw_entry.cls ≠ "java/lang/invoke/MethodHandle" ∧ y_Lw_entry.cls ≠ "java/lang/invoke/VarHandle" ∧ (parseMethodDescriptor y_Lw_entry.desc).map (fun d => d.parameters.length) = some 3 := ⟨by decide +kernel, by decide +kernel, by decide +kernel⟩
theorem q_Ex_entry : y_Ex_entry.cls ≠ "java/lang/invoke/MethodHandle" ∧ y_Ex_entry.cls ≠ "java/lang/invoke/VarHandle" ∧ (parseMethodDescriptor y_Ex_entry.desc).map (fun d => d.parameters.length) = some 2 := ⟨by decide +kernel, by decide +kernel, by decide +kernel⟩
theorem q_Lw_clear : y_Lw_clear.cls ≠ "java/lang/invoke/MethodHandle" ∧ y_Lw_clear.cls ≠ "java/lang/invoke/VarHandle" ∧ (parseMethodDescriptor y_Lw_clear.desc).map (fun d => d.parameters.length) = some 1 := ⟨by decide +kernel, by decide +kernel, by decide +kernel⟩
theorem q_Ex_clear : y_Ex_clear.cls ≠ "java/lang/invoke/MethodHandle" ∧ y_Ex_clear.cls ≠ "java/lang/invoke/VarHandle" ∧ (parseMethodDescriptor y_Ex_clear.desc).map (fun d => d.parameters.length) = some 0 := ⟨by decide +kernel, by decide +kernel, by decide +kernel⟩
theorem q_Lw_synthesize : y_Lw_synthesize.cls ≠ "java/lang/invoke/MethodHandle" ∧ y_Lw_synthesize.cls ≠ "java/lang/invoke/VarHandle" ∧ (parseMethodDescriptor y_Lw_synthesize.desc).map (fun d => d.parameters.length) = some 2 := ⟨by decide +kernel, by decide +kernel, by decide +kernel⟩
theorem q_Ex_synthesize : y_Ex_synthesize.cls ≠ "java/lang/invoke/MethodHandle" ∧ y_Ex_synthesize.cls ≠ "java/lang/invoke/VarHandle" ∧ (parseMethodDescriptor y_Ex_synthesize.desc).map (fun d => d.parameters.length) = some 0 := ⟨by decide +kernel, by decide +kernel, by decide +kernel⟩
theorem q_Pl_plan : y_Pl_plan.cls ≠ "java/lang/invoke/MethodHandle" ∧ y_Pl_plan.cls ≠ "java/lang/invoke/VarHandle" ∧ (parseMethodDescriptor y_Pl_plan.desc).map (fun d => d.parameters.length) = some 3 := ⟨by decide +kernel, by decide +kernel, by decide +kernel⟩
theorem q_Tl_workInRound : y_Tl_workInRound.cls ≠ "java/lang/invoke/MethodHandle" ∧ y_Tl_workInRound.cls ≠ "java/lang/invoke/VarHandle" ∧ (parseMethodDescriptor y_Tl_workInRound.desc).map (fun d => d.parameters.length) = some 1 := ⟨by decide +kernel, by decide +kernel, by decide +kernel⟩
theorem q_Tl_greatestOffset : y_Tl_greatestOffset.cls ≠ "java/lang/invoke/MethodHandle" ∧ y_Tl_greatestOffset.cls ≠ "java/lang/invoke/VarHandle" ∧ (parseMethodDescriptor y_Tl_greatestOffset.desc).map (fun d => d.parameters.length) = some 0 := ⟨by decide +kernel, by decide +kernel, by decide +kernel⟩
theorem q_Ma_max : y_Ma_max.cls ≠ "java/lang/invoke/MethodHandle" ∧ y_Ma_max.cls ≠ "java/lang/invoke/VarHandle" ∧ (parseMethodDescriptor y_Ma_max.desc).map (fun d => d.parameters.length) = some 2 := ⟨by decide +kernel, by decide +kernel, by decide +kernel⟩
theorem q_Pl_release : y_Pl_release.cls ≠ "java/lang/invoke/MethodHandle" ∧ y_Pl_release.cls ≠ "java/lang/invoke/VarHandle" ∧ (parseMethodDescriptor y_Pl_release.desc).map (fun d => d.parameters.length) = some 2 := ⟨by decide +kernel, by decide +kernel, by decide +kernel⟩
theorem q_Tk_releasesAt : y_Tk_releasesAt.cls ≠ "java/lang/invoke/MethodHandle" ∧ y_Tk_releasesAt.cls ≠ "java/lang/invoke/VarHandle" ∧ (parseMethodDescriptor y_Tk_releasesAt.desc).map (fun d => d.parameters.length) = some 1 := ⟨by decide +kernel, by decide +kernel, by decide +kernel⟩
theorem q_Pl_mostUrgent : y_Pl_mostUrgent.cls ≠ "java/lang/invoke/MethodHandle" ∧ y_Pl_mostUrgent.cls ≠ "java/lang/invoke/VarHandle" ∧ (parseMethodDescriptor y_Pl_mostUrgent.desc).map (fun d => d.parameters.length) = some 1 := ⟨by decide +kernel, by decide +kernel, by decide +kernel⟩
theorem q_Pl_missesWindow : y_Pl_missesWindow.cls ≠ "java/lang/invoke/MethodHandle" ∧ y_Pl_missesWindow.cls ≠ "java/lang/invoke/VarHandle" ∧ (parseMethodDescriptor y_Pl_missesWindow.desc).map (fun d => d.parameters.length) = some 2 := ⟨by decide +kernel, by decide +kernel, by decide +kernel⟩
theorem q_Tb_become : y_Tb_become.cls ≠ "java/lang/invoke/MethodHandle" ∧ y_Tb_become.cls ≠ "java/lang/invoke/VarHandle" ∧ (parseMethodDescriptor y_Tb_become.desc).map (fun d => d.parameters.length) = some 2 := ⟨by decide +kernel, by decide +kernel, by decide +kernel⟩
theorem q_Tb_put : y_Tb_put.cls ≠ "java/lang/invoke/MethodHandle" ∧ y_Tb_put.cls ≠ "java/lang/invoke/VarHandle" ∧ (parseMethodDescriptor y_Tb_put.desc).map (fun d => d.parameters.length) = some 4 := ⟨by decide +kernel, by decide +kernel, by decide +kernel⟩
theorem q_Lw_slot : y_Lw_slot.cls ≠ "java/lang/invoke/MethodHandle" ∧ y_Lw_slot.cls ≠ "java/lang/invoke/VarHandle" ∧ (parseMethodDescriptor y_Lw_slot.desc).map (fun d => d.parameters.length) = some 5 := ⟨by decide +kernel, by decide +kernel, by decide +kernel⟩
theorem q_Ex_slot : y_Ex_slot.cls ≠ "java/lang/invoke/MethodHandle" ∧ y_Ex_slot.cls ≠ "java/lang/invoke/VarHandle" ∧ (parseMethodDescriptor y_Ex_slot.desc).map (fun d => d.parameters.length) = some 4 := ⟨by decide +kernel, by decide +kernel, by decide +kernel⟩
theorem q_Ma_min : y_Ma_min.cls ≠ "java/lang/invoke/MethodHandle" ∧ y_Ma_min.cls ≠ "java/lang/invoke/VarHandle" ∧ (parseMethodDescriptor y_Ma_min.desc).map (fun d => d.parameters.length) = some 2 := ⟨by decide +kernel, by decide +kernel, by decide +kernel⟩
theorem q_Lw_drop : y_Lw_drop.cls ≠ "java/lang/invoke/MethodHandle" ∧ y_Lw_drop.cls ≠ "java/lang/invoke/VarHandle" ∧ (parseMethodDescriptor y_Lw_drop.desc).map (fun d => d.parameters.length) = some 1 := ⟨by decide +kernel, by decide +kernel, by decide +kernel⟩
theorem q_Ex_drop : y_Ex_drop.cls ≠ "java/lang/invoke/MethodHandle" ∧ y_Ex_drop.cls ≠ "java/lang/invoke/VarHandle" ∧ (parseMethodDescriptor y_Ex_drop.desc).map (fun d => d.parameters.length) = some 0 := ⟨by decide +kernel, by decide +kernel, by decide +kernel⟩
theorem q_Lw_slotOf : y_Lw_slotOf.cls ≠ "java/lang/invoke/MethodHandle" ∧ y_Lw_slotOf.cls ≠ "java/lang/invoke/VarHandle" ∧ (parseMethodDescriptor y_Lw_slotOf.desc).map (fun d => d.parameters.length) = some 4 := ⟨by decide +kernel, by decide +kernel, by decide +kernel⟩
theorem q_Ex_slotOf : y_Ex_slotOf.cls ≠ "java/lang/invoke/MethodHandle" ∧ y_Ex_slotOf.cls ≠ "java/lang/invoke/VarHandle" ∧ (parseMethodDescriptor y_Ex_slotOf.desc).map (fun d => d.parameters.length) = some 2 := ⟨by decide +kernel, by decide +kernel, by decide +kernel⟩
theorem q_Tb_part : y_Tb_part.cls ≠ "java/lang/invoke/MethodHandle" ∧ y_Tb_part.cls ≠ "java/lang/invoke/VarHandle" ∧ (parseMethodDescriptor y_Tb_part.desc).map (fun d => d.parameters.length) = some 2 := ⟨by decide +kernel, by decide +kernel, by decide +kernel⟩
theorem q_Lw_check : y_Lw_check.cls ≠ "java/lang/invoke/MethodHandle" ∧ y_Lw_check.cls ≠ "java/lang/invoke/VarHandle" ∧ (parseMethodDescriptor y_Lw_check.desc).map (fun d => d.parameters.length) = some 2 := ⟨by decide +kernel, by decide +kernel, by decide +kernel⟩
theorem q_Ex_check : y_Ex_check.cls ≠ "java/lang/invoke/MethodHandle" ∧ y_Ex_check.cls ≠ "java/lang/invoke/VarHandle" ∧ (parseMethodDescriptor y_Ex_check.desc).map (fun d => d.parameters.length) = some 0 := ⟨by decide +kernel, by decide +kernel, by decide +kernel⟩
theorem q_Tb_spread : y_Tb_spread.cls ≠ "java/lang/invoke/MethodHandle" ∧ y_Tb_spread.cls ≠ "java/lang/invoke/VarHandle" ∧ (parseMethodDescriptor y_Tb_spread.desc).map (fun d => d.parameters.length) = some 2 := ⟨by decide +kernel, by decide +kernel, by decide +kernel⟩
theorem q_Tl_areServed : y_Tl_areServed.cls ≠ "java/lang/invoke/MethodHandle" ∧ y_Tl_areServed.cls ≠ "java/lang/invoke/VarHandle" ∧ (parseMethodDescriptor y_Tl_areServed.desc).map (fun d => d.parameters.length) = some 2 := ⟨by decide +kernel, by decide +kernel, by decide +kernel⟩
theorem q_Tk_isServed : y_Tk_isServed.cls ≠ "java/lang/invoke/MethodHandle" ∧ y_Tk_isServed.cls ≠ "java/lang/invoke/VarHandle" ∧ (parseMethodDescriptor y_Tk_isServed.desc).map (fun d => d.parameters.length) = some 3 := ⟨by decide +kernel, by decide +kernel, by decide +kernel⟩
theorem q_Tk_ticksOf : y_Tk_ticksOf.cls ≠ "java/lang/invoke/MethodHandle" ∧ y_Tk_ticksOf.cls ≠ "java/lang/invoke/VarHandle" ∧ (parseMethodDescriptor y_Tk_ticksOf.desc).map (fun d => d.parameters.length) = some 5 := ⟨by decide +kernel, by decide +kernel, by decide +kernel⟩
theorem q_Ex_startRun : y_Ex_startRun.cls ≠ "java/lang/invoke/MethodHandle" ∧ y_Ex_startRun.cls ≠ "java/lang/invoke/VarHandle" ∧ (parseMethodDescriptor y_Ex_startRun.desc).map (fun d => d.parameters.length) = some 1 := ⟨by decide +kernel, by decide +kernel, by decide +kernel⟩
theorem q_Lw_stop : y_Lw_stop.cls ≠ "java/lang/invoke/MethodHandle" ∧ y_Lw_stop.cls ≠ "java/lang/invoke/VarHandle" ∧ (parseMethodDescriptor y_Lw_stop.desc).map (fun d => d.parameters.length) = some 1 := ⟨by decide +kernel, by decide +kernel, by decide +kernel⟩
theorem q_Ex_stop : y_Ex_stop.cls ≠ "java/lang/invoke/MethodHandle" ∧ y_Ex_stop.cls ≠ "java/lang/invoke/VarHandle" ∧ (parseMethodDescriptor y_Ex_stop.desc).map (fun d => d.parameters.length) = some 0 := ⟨by decide +kernel, by decide +kernel, by decide +kernel⟩
theorem q_Ex_needRun : y_Ex_needRun.cls ≠ "java/lang/invoke/MethodHandle" ∧ y_Ex_needRun.cls ≠ "java/lang/invoke/VarHandle" ∧ (parseMethodDescriptor y_Ex_needRun.desc).map (fun d => d.parameters.length) = some 0 := ⟨by decide +kernel, by decide +kernel, by decide +kernel⟩
theorem q_Lw_tick : y_Lw_tick.cls ≠ "java/lang/invoke/MethodHandle" ∧ y_Lw_tick.cls ≠ "java/lang/invoke/VarHandle" ∧ (parseMethodDescriptor y_Lw_tick.desc).map (fun d => d.parameters.length) = some 2 := ⟨by decide +kernel, by decide +kernel, by decide +kernel⟩
theorem q_Ex_tick : y_Ex_tick.cls ≠ "java/lang/invoke/MethodHandle" ∧ y_Ex_tick.cls ≠ "java/lang/invoke/VarHandle" ∧ (parseMethodDescriptor y_Ex_tick.desc).map (fun d => d.parameters.length) = some 0 := ⟨by decide +kernel, by decide +kernel, by decide +kernel⟩
theorem q_Ex_runTick : y_Ex_runTick.cls ≠ "java/lang/invoke/MethodHandle" ∧ y_Ex_runTick.cls ≠ "java/lang/invoke/VarHandle" ∧ (parseMethodDescriptor y_Ex_runTick.desc).map (fun d => d.parameters.length) = some 0 := ⟨by decide +kernel, by decide +kernel, by decide +kernel⟩
theorem q_Tl_releaseJobs : y_Tl_releaseJobs.cls ≠ "java/lang/invoke/MethodHandle" ∧ y_Tl_releaseJobs.cls ≠ "java/lang/invoke/VarHandle" ∧ (parseMethodDescriptor y_Tl_releaseJobs.desc).map (fun d => d.parameters.length) = some 1 := ⟨by decide +kernel, by decide +kernel, by decide +kernel⟩
theorem q_Jb_start : y_Jb_start.cls ≠ "java/lang/invoke/MethodHandle" ∧ y_Jb_start.cls ≠ "java/lang/invoke/VarHandle" ∧ (parseMethodDescriptor y_Jb_start.desc).map (fun d => d.parameters.length) = some 2 := ⟨by decide +kernel, by decide +kernel, by decide +kernel⟩
theorem q_Ma_floorMod : y_Ma_floorMod.cls ≠ "java/lang/invoke/MethodHandle" ∧ y_Ma_floorMod.cls ≠ "java/lang/invoke/VarHandle" ∧ (parseMethodDescriptor y_Ma_floorMod.desc).map (fun d => d.parameters.length) = some 2 := ⟨by decide +kernel, by decide +kernel, by decide +kernel⟩
theorem q_Ex_serve : y_Ex_serve.cls ≠ "java/lang/invoke/MethodHandle" ∧ y_Ex_serve.cls ≠ "java/lang/invoke/VarHandle" ∧ (parseMethodDescriptor y_Ex_serve.desc).map (fun d => d.parameters.length) = some 1 := ⟨by decide +kernel, by decide +kernel, by decide +kernel⟩
theorem q_Mc_step : y_Mc_step.cls ≠ "java/lang/invoke/MethodHandle" ∧ y_Mc_step.cls ≠ "java/lang/invoke/VarHandle" ∧ (parseMethodDescriptor y_Mc_step.desc).map (fun d => d.parameters.length) = some 1 := ⟨by decide +kernel, by decide +kernel, by decide +kernel⟩
theorem q_Mc_placeOf : y_Mc_placeOf.cls ≠ "java/lang/invoke/MethodHandle" ∧ y_Mc_placeOf.cls ≠ "java/lang/invoke/VarHandle" ∧ (parseMethodDescriptor y_Mc_placeOf.desc).map (fun d => d.parameters.length) = some 1 := ⟨by decide +kernel, by decide +kernel, by decide +kernel⟩
theorem q_Mc_jumpIf : y_Mc_jumpIf.cls ≠ "java/lang/invoke/MethodHandle" ∧ y_Mc_jumpIf.cls ≠ "java/lang/invoke/VarHandle" ∧ (parseMethodDescriptor y_Mc_jumpIf.desc).map (fun d => d.parameters.length) = some 3 := ⟨by decide +kernel, by decide +kernel, by decide +kernel⟩
theorem q_Tk_endJob : y_Tk_endJob.cls ≠ "java/lang/invoke/MethodHandle" ∧ y_Tk_endJob.cls ≠ "java/lang/invoke/VarHandle" ∧ (parseMethodDescriptor y_Tk_endJob.desc).map (fun d => d.parameters.length) = some 2 := ⟨by decide +kernel, by decide +kernel, by decide +kernel⟩
theorem q_Lw_ticks : y_Lw_ticks.cls ≠ "java/lang/invoke/MethodHandle" ∧ y_Lw_ticks.cls ≠ "java/lang/invoke/VarHandle" ∧ (parseMethodDescriptor y_Lw_ticks.desc).map (fun d => d.parameters.length) = some 3 := ⟨by decide +kernel, by decide +kernel, by decide +kernel⟩
theorem q_Ex_ticks : y_Ex_ticks.cls ≠ "java/lang/invoke/MethodHandle" ∧ y_Ex_ticks.cls ≠ "java/lang/invoke/VarHandle" ∧ (parseMethodDescriptor y_Ex_ticks.desc).map (fun d => d.parameters.length) = some 1 := ⟨by decide +kernel, by decide +kernel, by decide +kernel⟩
theorem q_Lw_count : y_Lw_count.cls ≠ "java/lang/invoke/MethodHandle" ∧ y_Lw_count.cls ≠ "java/lang/invoke/VarHandle" ∧ (parseMethodDescriptor y_Lw_count.desc).map (fun d => d.parameters.length) = some 4 := ⟨by decide +kernel, by decide +kernel, by decide +kernel⟩
theorem q_Ex_count : y_Ex_count.cls ≠ "java/lang/invoke/MethodHandle" ∧ y_Ex_count.cls ≠ "java/lang/invoke/VarHandle" ∧ (parseMethodDescriptor y_Ex_count.desc).map (fun d => d.parameters.length) = some 2 := ⟨by decide +kernel, by decide +kernel, by decide +kernel⟩
theorem q_Lw_shared : y_Lw_shared.cls ≠ "java/lang/invoke/MethodHandle" ∧ y_Lw_shared.cls ≠ "java/lang/invoke/VarHandle" ∧ (parseMethodDescriptor y_Lw_shared.desc).map (fun d => d.parameters.length) = some 3 := ⟨by decide +kernel, by decide +kernel, by decide +kernel⟩
theorem q_Ex_shared : y_Ex_shared.cls ≠ "java/lang/invoke/MethodHandle" ∧ y_Ex_shared.cls ≠ "java/lang/invoke/VarHandle" ∧ (parseMethodDescriptor y_Ex_shared.desc).map (fun d => d.parameters.length) = some 1 := ⟨by decide +kernel, by decide +kernel, by decide +kernel⟩
theorem q_Md_init : y_Md_init.cls ≠ "java/lang/invoke/MethodHandle" ∧ y_Md_init.cls ≠ "java/lang/invoke/VarHandle" ∧ (parseMethodDescriptor y_Md_init.desc).map (fun d => d.parameters.length) = some 0 := ⟨by decide +kernel, by decide +kernel, by decide +kernel⟩
theorem q_Md_thrown : y_Md_thrown.cls ≠ "java/lang/invoke/MethodHandle" ∧ y_Md_thrown.cls ≠ "java/lang/invoke/VarHandle" ∧ (parseMethodDescriptor y_Md_thrown.desc).map (fun d => d.parameters.length) = some 0 := ⟨by decide +kernel, by decide +kernel, by decide +kernel⟩
theorem q_Md_load : y_Md_load.cls ≠ "java/lang/invoke/MethodHandle" ∧ y_Md_load.cls ≠ "java/lang/invoke/VarHandle" ∧ (parseMethodDescriptor y_Md_load.desc).map (fun d => d.parameters.length) = some 2 := ⟨by decide +kernel, by decide +kernel, by decide +kernel⟩
theorem q_Md_refused : y_Md_refused.cls ≠ "java/lang/invoke/MethodHandle" ∧ y_Md_refused.cls ≠ "java/lang/invoke/VarHandle" ∧ (parseMethodDescriptor y_Md_refused.desc).map (fun d => d.parameters.length) = some 1 := ⟨by decide +kernel, by decide +kernel, by decide +kernel⟩
theorem q_Md_task : y_Md_task.cls ≠ "java/lang/invoke/MethodHandle" ∧ y_Md_task.cls ≠ "java/lang/invoke/VarHandle" ∧ (parseMethodDescriptor y_Md_task.desc).map (fun d => d.parameters.length) = some 4 := ⟨by decide +kernel, by decide +kernel, by decide +kernel⟩
theorem q_Md_entry : y_Md_entry.cls ≠ "java/lang/invoke/MethodHandle" ∧ y_Md_entry.cls ≠ "java/lang/invoke/VarHandle" ∧ (parseMethodDescriptor y_Md_entry.desc).map (fun d => d.parameters.length) = some 2 := ⟨by decide +kernel, by decide +kernel, by decide +kernel⟩
theorem q_Md_clear : y_Md_clear.cls ≠ "java/lang/invoke/MethodHandle" ∧ y_Md_clear.cls ≠ "java/lang/invoke/VarHandle" ∧ (parseMethodDescriptor y_Md_clear.desc).map (fun d => d.parameters.length) = some 0 := ⟨by decide +kernel, by decide +kernel, by decide +kernel⟩
theorem q_Md_round : y_Md_round.cls ≠ "java/lang/invoke/MethodHandle" ∧ y_Md_round.cls ≠ "java/lang/invoke/VarHandle" ∧ (parseMethodDescriptor y_Md_round.desc).map (fun d => d.parameters.length) = some 0 := ⟨by decide +kernel, by decide +kernel, by decide +kernel⟩
theorem q_Md_whole : y_Md_whole.cls ≠ "java/lang/invoke/MethodHandle" ∧ y_Md_whole.cls ≠ "java/lang/invoke/VarHandle" ∧ (parseMethodDescriptor y_Md_whole.desc).map (fun d => d.parameters.length) = some 0 := ⟨by decide +kernel, by decide +kernel, by decide +kernel⟩
theorem q_Md_synthesize : y_Md_synthesize.cls ≠ "java/lang/invoke/MethodHandle" ∧ y_Md_synthesize.cls ≠ "java/lang/invoke/VarHandle" ∧ (parseMethodDescriptor y_Md_synthesize.desc).map (fun d => d.parameters.length) = some 0 := ⟨by decide +kernel, by decide +kernel, by decide +kernel⟩
theorem q_Md_greatestOffset : y_Md_greatestOffset.cls ≠ "java/lang/invoke/MethodHandle" ∧ y_Md_greatestOffset.cls ≠ "java/lang/invoke/VarHandle" ∧ (parseMethodDescriptor y_Md_greatestOffset.desc).map (fun d => d.parameters.length) = some 0 := ⟨by decide +kernel, by decide +kernel, by decide +kernel⟩
theorem q_Md_imagine : y_Md_imagine.cls ≠ "java/lang/invoke/MethodHandle" ∧ y_Md_imagine.cls ≠ "java/lang/invoke/VarHandle" ∧ (parseMethodDescriptor y_Md_imagine.desc).map (fun d => d.parameters.length) = some 2 := ⟨by decide +kernel, by decide +kernel, by decide +kernel⟩
theorem q_Md_isReleased : y_Md_isReleased.cls ≠ "java/lang/invoke/MethodHandle" ∧ y_Md_isReleased.cls ≠ "java/lang/invoke/VarHandle" ∧ (parseMethodDescriptor y_Md_isReleased.desc).map (fun d => d.parameters.length) = some 2 := ⟨by decide +kernel, by decide +kernel, by decide +kernel⟩
theorem q_Md_chosen : y_Md_chosen.cls ≠ "java/lang/invoke/MethodHandle" ∧ y_Md_chosen.cls ≠ "java/lang/invoke/VarHandle" ∧ (parseMethodDescriptor y_Md_chosen.desc).map (fun d => d.parameters.length) = some 0 := ⟨by decide +kernel, by decide +kernel, by decide +kernel⟩
theorem q_Md_slot : y_Md_slot.cls ≠ "java/lang/invoke/MethodHandle" ∧ y_Md_slot.cls ≠ "java/lang/invoke/VarHandle" ∧ (parseMethodDescriptor y_Md_slot.desc).map (fun d => d.parameters.length) = some 4 := ⟨by decide +kernel, by decide +kernel, by decide +kernel⟩
theorem q_Md_drop : y_Md_drop.cls ≠ "java/lang/invoke/MethodHandle" ∧ y_Md_drop.cls ≠ "java/lang/invoke/VarHandle" ∧ (parseMethodDescriptor y_Md_drop.desc).map (fun d => d.parameters.length) = some 0 := ⟨by decide +kernel, by decide +kernel, by decide +kernel⟩
theorem q_Md_slots : y_Md_slots.cls ≠ "java/lang/invoke/MethodHandle" ∧ y_Md_slots.cls ≠ "java/lang/invoke/VarHandle" ∧ (parseMethodDescriptor y_Md_slots.desc).map (fun d => d.parameters.length) = some 0 := ⟨by decide +kernel, by decide +kernel, by decide +kernel⟩
theorem q_Md_slotOf : y_Md_slotOf.cls ≠ "java/lang/invoke/MethodHandle" ∧ y_Md_slotOf.cls ≠ "java/lang/invoke/VarHandle" ∧ (parseMethodDescriptor y_Md_slotOf.desc).map (fun d => d.parameters.length) = some 2 := ⟨by decide +kernel, by decide +kernel, by decide +kernel⟩
theorem q_Md_check : y_Md_check.cls ≠ "java/lang/invoke/MethodHandle" ∧ y_Md_check.cls ≠ "java/lang/invoke/VarHandle" ∧ (parseMethodDescriptor y_Md_check.desc).map (fun d => d.parameters.length) = some 0 := ⟨by decide +kernel, by decide +kernel, by decide +kernel⟩
theorem q_Md_isGood : y_Md_isGood.cls ≠ "java/lang/invoke/MethodHandle" ∧ y_Md_isGood.cls ≠ "java/lang/invoke/VarHandle" ∧ (parseMethodDescriptor y_Md_isGood.desc).map (fun d => d.parameters.length) = some 0 := ⟨by decide +kernel, by decide +kernel, by decide +kernel⟩
theorem q_Md_covering : y_Md_covering.cls ≠ "java/lang/invoke/MethodHandle" ∧ y_Md_covering.cls ≠ "java/lang/invoke/VarHandle" ∧ (parseMethodDescriptor y_Md_covering.desc).map (fun d => d.parameters.length) = some 1 := ⟨by decide +kernel, by decide +kernel, by decide +kernel⟩
theorem q_Md_isServed : y_Md_isServed.cls ≠ "java/lang/invoke/MethodHandle" ∧ y_Md_isServed.cls ≠ "java/lang/invoke/VarHandle" ∧ (parseMethodDescriptor y_Md_isServed.desc).map (fun d => d.parameters.length) = some 2 := ⟨by decide +kernel, by decide +kernel, by decide +kernel⟩
theorem q_Md_at : y_Md_at.cls ≠ "java/lang/invoke/MethodHandle" ∧ y_Md_at.cls ≠ "java/lang/invoke/VarHandle" ∧ (parseMethodDescriptor y_Md_at.desc).map (fun d => d.parameters.length) = some 1 := ⟨by decide +kernel, by decide +kernel, by decide +kernel⟩
theorem q_Md_stop : y_Md_stop.cls ≠ "java/lang/invoke/MethodHandle" ∧ y_Md_stop.cls ≠ "java/lang/invoke/VarHandle" ∧ (parseMethodDescriptor y_Md_stop.desc).map (fun d => d.parameters.length) = some 0 := ⟨by decide +kernel, by decide +kernel, by decide +kernel⟩
theorem q_Md_tick : y_Md_tick.cls ≠ "java/lang/invoke/MethodHandle" ∧ y_Md_tick.cls ≠ "java/lang/invoke/VarHandle" ∧ (parseMethodDescriptor y_Md_tick.desc).map (fun d => d.parameters.length) = some 0 := ⟨by decide +kernel, by decide +kernel, by decide +kernel⟩
theorem q_Md_one : y_Md_one.cls ≠ "java/lang/invoke/MethodHandle" ∧ y_Md_one.cls ≠ "java/lang/invoke/VarHandle" ∧ (parseMethodDescriptor y_Md_one.desc).map (fun d => d.parameters.length) = some 0 := ⟨by decide +kernel, by decide +kernel, by decide +kernel⟩
theorem q_Md_release : y_Md_release.cls ≠ "java/lang/invoke/MethodHandle" ∧ y_Md_release.cls ≠ "java/lang/invoke/VarHandle" ∧ (parseMethodDescriptor y_Md_release.desc).map (fun d => d.parameters.length) = some 1 := ⟨by decide +kernel, by decide +kernel, by decide +kernel⟩
theorem q_Md_instruct : y_Md_instruct.cls ≠ "java/lang/invoke/MethodHandle" ∧ y_Md_instruct.cls ≠ "java/lang/invoke/VarHandle" ∧ (parseMethodDescriptor y_Md_instruct.desc).map (fun d => d.parameters.length) = some 1 := ⟨by decide +kernel, by decide +kernel, by decide +kernel⟩
theorem q_Md_ticks : y_Md_ticks.cls ≠ "java/lang/invoke/MethodHandle" ∧ y_Md_ticks.cls ≠ "java/lang/invoke/VarHandle" ∧ (parseMethodDescriptor y_Md_ticks.desc).map (fun d => d.parameters.length) = some 1 := ⟨by decide +kernel, by decide +kernel, by decide +kernel⟩
theorem q_Md_time : y_Md_time.cls ≠ "java/lang/invoke/MethodHandle" ∧ y_Md_time.cls ≠ "java/lang/invoke/VarHandle" ∧ (parseMethodDescriptor y_Md_time.desc).map (fun d => d.parameters.length) = some 0 := ⟨by decide +kernel, by decide +kernel, by decide +kernel⟩
theorem q_Md_count : y_Md_count.cls ≠ "java/lang/invoke/MethodHandle" ∧ y_Md_count.cls ≠ "java/lang/invoke/VarHandle" ∧ (parseMethodDescriptor y_Md_count.desc).map (fun d => d.parameters.length) = some 2 := ⟨by decide +kernel, by decide +kernel, by decide +kernel⟩
theorem q_Md_shared : y_Md_shared.cls ≠ "java/lang/invoke/MethodHandle" ∧ y_Md_shared.cls ≠ "java/lang/invoke/VarHandle" ∧ (parseMethodDescriptor y_Md_shared.desc).map (fun d => d.parameters.length) = some 1 := ⟨by decide +kernel, by decide +kernel, by decide +kernel⟩
end ZG
end
section
set_option maxHeartbeats 4000000 in
set_option maxRecDepth 100000 in
/-- Arrays.fill -/
theorem c_Ar_fill (l : Launch) (D : va_G) (ca : Nat → ClassId) (ad : Nat → Nat) (M : Nat → Nat → Int32) (k n : Nat) (v : Int32) (hk : k < 57) (hC : ∀ r, zC ca ad k r = .inl (ca 0, n, .inl r)) (hn : n ≤ 240) : xw_Mv l y_Ar_fill (.code y_Ar_fill b_Ar_fill 4 none :: zG) { frames := 0, cells := 0, slots := 0, locals := 0 } D zCl (zT ca) [.ref (ad k), .int v] (zW ca ad M) (fun _ => True) 0 0 (zW ca ad) (fun M' => M' = zfl M k n v) := by
  intro sz
  refine xw_met (cc := b_Ar_fill) (maxL := 4) (ret := none) (by decide) rfl (Nat.le_of_ble_eq_true rfl) (fun p e s m args below meth c hr hlk hnm hsz hKs C => ?_)
  have loop1 : ∀ (d : Nat) (i : Nat) (M1 : Nat → Nat → Int32), n - i = d → i ≤ n → M1 = zfl M k i v → XW p l e { frames := 0, cells := 0, slots := 0, locals := 0 } s m args below meth c D zCl (va_A (zW ca ad M) sz) s.heap 4 (zW ca ad M1) 0 0 (MQ below (va_Qv (fun M' => M' = zfl M k n v) (xw_B D zCl (zT ca) (va_A (zW ca ad M) sz) (zW ca ad)) (va_A (zW ca ad M) sz)) args s 0 0 (va_A (zW ca ad M) sz)) 5 [(0, .ref (ad k)), (1, .int v), (2, .int (nI i)), (3, .int (nI n))] [] := by
    intro d
    induction d using Nat.strongRecOn with
    | _ d ih =>
      intro i M1 hd hi hM1
      refine xw_iload_n C 2 d_Ar_fill_5 rfl rfl (pc' := 6) rfl ?_
      refine xw_iload_n C 3 d_Ar_fill_6 rfl rfl (pc' := 7) rfl ?_
      refine xw_icmp_ge C (tgt := 20) d_Ar_fill_7 (by decide) (pc' := 10) rfl (fun h7 => ?_) (fun h7 => ?_)
      ·
        replace h7 : n ≤ i := (nI_leI (by omega) (by omega)).mp h7
        refine xw_vret C hr hlk (F := zW ca ad) M1 rfl ?_ d_Ar_fill_20
        rw [hM1, show i = n by omega]
      ·
        replace h7 : ¬ (n ≤ i) := fun h9 => h7 ((nI_leI (by omega) (by omega)).mpr h9)
        refine xw_aload_n C 0 d_Ar_fill_10 rfl rfl (pc' := 11) rfl ?_
        refine xw_iload_n C 2 d_Ar_fill_11 rfl rfl (pc' := 12) rfl ?_
        refine xw_iload_n C 1 d_Ar_fill_12 rfl rfl (pc' := 13) rfl ?_
        obtain ⟨M51, hM51⟩ : ∃ z, z = zst M1 k i v := ⟨_, rfl⟩
        refine xw_iast C k 0 (zr_gen hk hC) rfl i rfl (by omega) (by omega) (ws' := zW ca ad M51) (by rw [hM51]; exact zs_gen hk hC _ _) d_Ar_fill_13 (pc' := 14) rfl ?_
        refine xw_iinc C 2 (v := nI (i + 1)) d_Ar_fill_14 rfl (xp_inc1 _) (by decide) rfl (pc' := 17) rfl ?_
        refine xw_goto C (tgt := 5) d_Ar_fill_17 (by decide) ?_
        refine xw_lv [1, 2, 0, 3] rfl ?_
        exact ih (n - (i + 1)) (by omega) (i + 1) M51 rfl (by omega) (by rw [hM51, hM1]; exact zfl_s _ _ _ _)
  refine xw_lvE (lv' := [(0, .ref (ad k)), (1, .int v)]) rfl ?_
  refine xw_iconst C (v := nI 0) d_Ar_fill_0 (by decide) (pc' := 1) rfl ?_
  refine xw_istore_n C d_Ar_fill_1 rfl (by decide) rfl (pc' := 2) rfl ?_
  refine xw_aload_n C 1 d_Ar_fill_2 rfl rfl (pc' := 3) rfl ?_
  refine xw_alen C k 0 (zr_gen hk hC) rfl (v := nI n) rfl d_Ar_fill_3 (pc' := 4) rfl ?_
  refine xw_istore_n C d_Ar_fill_4 rfl (by decide) rfl (pc' := 5) rfl ?_
  refine xw_lv [2, 3, 1, 0] rfl ?_
  exact loop1 n 0 M rfl (by omega) (zfl_0 _ _ _)

set_option maxHeartbeats 4000000 in
set_option maxRecDepth 100000 in
/-- Math.max -/
theorem c_Ma_max (l : Launch) (D : va_G) (ca : Nat → ClassId) (ad : Nat → Nat) (M : Nat → Nat → Int32) (x y : Int32)  : xw_Mi l y_Ma_max (.code y_Ma_max b_Ma_max 2 (some .int) :: zG) { frames := 0, cells := 0, slots := 0, locals := 0 } D zCl (zT ca) [.int x, .int y] (zW ca ad M) (fun _ => True) 0 0 (zW ca ad) (fun r M' => M' = M ∧ r = if x < y then y else x) := by
  intro sz
  refine xw_metF (cc := b_Ma_max) (maxL := 2) (ret := (some .int)) (by decide +kernel) rfl (Nat.le_of_ble_eq_true rfl) (fun p e s m args below meth c hr hlk hnm hsz hKs C => ?_)
  refine xw_lvE (lv' := [(0, .int x), (1, .int y)]) rfl ?_
  refine xw_iload_n C 0 d_Ma_max_0 rfl rfl (pc' := 1) rfl ?_
  refine xw_iload_n C 1 d_Ma_max_1 rfl rfl (pc' := 2) rfl ?_
  refine xw_icmp_lt C (tgt := 9) d_Ma_max_2 (by decide) (pc' := 5) rfl (fun h2 => ?_) (fun h2 => ?_)
  ·
    refine xw_iload_n C 1 d_Ma_max_9 rfl rfl (pc' := 10) rfl ?_
    refine xw_iret C hr hlk (F := zW ca ad) M rfl ?_ d_Ma_max_10
    exact ⟨rfl, by rw [if_pos h2]⟩
  ·
    refine xw_iload_n C 0 d_Ma_max_5 rfl rfl (pc' := 6) rfl ?_
    refine xw_goto C (tgt := 10) d_Ma_max_6 (by decide) ?_
    refine xw_iret C hr hlk (F := zW ca ad) M rfl ?_ d_Ma_max_10
    exact ⟨rfl, by rw [if_neg h2]⟩

set_option maxHeartbeats 4000000 in
set_option maxRecDepth 100000 in
/-- Math.min -/
theorem c_Ma_min (l : Launch) (D : va_G) (ca : Nat → ClassId) (ad : Nat → Nat) (M : Nat → Nat → Int32) (x y : Int32)  : xw_Mi l y_Ma_min (.code y_Ma_min b_Ma_min 2 (some .int) :: zG) { frames := 0, cells := 0, slots := 0, locals := 0 } D zCl (zT ca) [.int x, .int y] (zW ca ad M) (fun _ => True) 0 0 (zW ca ad) (fun r M' => M' = M ∧ r = if y < x then y else x) := by
  intro sz
  refine xw_metF (cc := b_Ma_min) (maxL := 2) (ret := (some .int)) (by decide +kernel) rfl (Nat.le_of_ble_eq_true rfl) (fun p e s m args below meth c hr hlk hnm hsz hKs C => ?_)
  refine xw_lvE (lv' := [(0, .int x), (1, .int y)]) rfl ?_
  refine xw_iload_n C 0 d_Ma_min_0 rfl rfl (pc' := 1) rfl ?_
  refine xw_iload_n C 1 d_Ma_min_1 rfl rfl (pc' := 2) rfl ?_
  refine xw_icmp_gt C (tgt := 9) d_Ma_min_2 (by decide) (pc' := 5) rfl (fun h2 => ?_) (fun h2 => ?_)
  ·
    refine xw_iload_n C 1 d_Ma_min_9 rfl rfl (pc' := 10) rfl ?_
    refine xw_iret C hr hlk (F := zW ca ad) M rfl ?_ d_Ma_min_10
    exact ⟨rfl, by rw [if_pos h2]⟩
  ·
    refine xw_iload_n C 0 d_Ma_min_5 rfl rfl (pc' := 6) rfl ?_
    refine xw_goto C (tgt := 10) d_Ma_min_6 (by decide) ?_
    refine xw_iret C hr hlk (F := zW ca ad) M rfl ?_ d_Ma_min_10
    exact ⟨rfl, by rw [if_neg h2]⟩

theorem xp_xor {a b : Nat} (ha : a < 2 ^ 31) (hb : b < 2 ^ 31) : 0 ≤ nI a ^^^ nI b := by
  have e : nI a ^^^ nI b = nI (a ^^^ b) := by
    apply Int32.toBitVec_inj.mp
    rw [Int32.toBitVec_xor]
    unfold nI
    rw [Int32.toBitVec_ofNat', Int32.toBitVec_ofNat', Int32.toBitVec_ofNat', BitVec.ofNat_xor]
  rw [e]
  exact nI_pos' (Nat.xor_lt_two_pow ha hb)

set_option maxHeartbeats 4000000 in
set_option maxRecDepth 100000 in
/-- Math.floorMod of two numbers that are not negative -/
theorem c_Ma_floorMod (l : Launch) (D : va_G) (ca : Nat → ClassId) (ad : Nat → Nat) (M : Nat → Nat → Int32) (a b : Nat) (ha : a < 2 ^ 31) (h0 : 0 < b) (hb : b < 2 ^ 31) : xw_Mi l y_Ma_floorMod (.code y_Ma_floorMod b_Ma_floorMod 3 (some .int) :: zG) { frames := 0, cells := 0, slots := 0, locals := 0 } D zCl (zT ca) [.int (nI a), .int (nI b)] (zW ca ad M) (fun _ => True) 0 0 (zW ca ad) (fun r M' => M' = M ∧ r = nI (a % b)) := by
  intro sz
  refine xw_metF (cc := b_Ma_floorMod) (maxL := 3) (ret := (some .int)) (by decide +kernel) rfl (Nat.le_of_ble_eq_true rfl) (fun p e s m args below meth c hr hlk hnm hsz hKs C => ?_)
  refine xw_lvE (lv' := [(0, .int (nI a)), (1, .int (nI b))]) rfl ?_
  refine xw_iload_n C 0 d_Ma_floorMod_0 rfl rfl (pc' := 1) rfl ?_
  refine xw_iload_n C 1 d_Ma_floorMod_1 rfl rfl (pc' := 2) rfl ?_
  refine xw_irem C d_Ma_floorMod_2 (nI_ne0 (by omega) (by omega)) (pc' := 3) rfl ?_
  refine xw_topi (y := nI (a % b)) (pk_rem (by omega) (by omega) (by omega)) ?_
  have hm2 : a % b < b := Nat.mod_lt _ (by omega)
  refine xw_istore_n C d_Ma_floorMod_3 rfl (by decide) rfl (pc' := 4) rfl ?_
  refine xw_iload_n C 1 d_Ma_floorMod_4 rfl rfl (pc' := 5) rfl ?_
  refine xw_iload_n C 2 d_Ma_floorMod_5 rfl rfl (pc' := 6) rfl ?_
  refine xw_ixor C d_Ma_floorMod_6 (pc' := 7) rfl ?_
  refine xw_if_ge C (tgt := 18) d_Ma_floorMod_7 (by decide) (pc' := 10) rfl (fun h7 => ?_) (fun h7 => ?_)
  ·
    refine xw_iload_n C 0 d_Ma_floorMod_18 rfl rfl (pc' := 19) rfl ?_
    refine xw_iret C hr hlk (F := zW ca ad) M rfl ?_ d_Ma_floorMod_19
    exact ⟨rfl, rfl⟩
  ·
    exact absurd (xp_xor ha hb) h7

def sp_cm (n : Nat) (per : Nat → Nat) (h : Nat) : Prop := ∀ t, t < n → h % per t = 0
def sp_rd (n : Nat) (per : Nat → Nat) (h : Nat) : Prop := 1 ≤ h ∧ h ≤ 240 ∧ sp_cm n per h ∧ ∀ g, 1 ≤ g → g < h → ¬ sp_cm n per g
def sp_no (n : Nat) (per : Nat → Nat) : Prop := ∀ g, 1 ≤ g → g ≤ 240 → ¬ sp_cm n per g

set_option maxHeartbeats 4000000 in
set_option maxRecDepth 100000 in
/-- isCommonMultiple(h): whether h is a multiple of every period -/
theorem c_Tl_isCommonMultiple (l : Launch) (D : va_G) (ca : Nat → ClassId) (ad : Nat → Nat) (M : Nat → Nat → Int32) (n : Nat) (per : Nat → Nat) (h : Nat) (hn : n ≤ 6) (hz : M 1 0 = nI n) (hper : ∀ t, t < n → M (14 + t) 0 = nI (per t) ∧ 1 ≤ per t ∧ per t ≤ 48) (hh : h < 2 ^ 31) : xw_Mi l y_Tl_isCommonMultiple (.code y_Tl_isCommonMultiple b_Tl_isCommonMultiple 3 (some .boolean) :: zG) { frames := 0, cells := 0, slots := 0, locals := 0 } D zCl (zT ca) [.ref (ad 1), .int (nI h)] (zW ca ad M) (fun _ => True) 0 0 (zW ca ad) (fun r M' => M' = M ∧ (sp_cm n per h ∧ r = nI 1 ∨ ¬ sp_cm n per h ∧ r = nI 0)) := by
  intro sz
  refine xw_met (cc := b_Tl_isCommonMultiple) (maxL := 3) (ret := (some .boolean)) (by decide) rfl (Nat.le_of_ble_eq_true rfl) (fun p e s m args below meth c hr hlk hnm hsz hKs C => ?_)
  have loop1 : ∀ (d : Nat) (i : Nat), n - i = d → i ≤ n → (∀ t, t < i → h % per t = 0) → XW p l e { frames := 0, cells := 0, slots := 0, locals := 0 } s m args below meth c D zCl (va_A (zW ca ad M) sz) s.heap 3 (zW ca ad M) 0 0 (MQ below (va_Qi (fun r M' => M' = M ∧ (sp_cm n per h ∧ r = nI 1 ∨ ¬ sp_cm n per h ∧ r = nI 0)) (xw_B D zCl (zT ca) (va_A (zW ca ad M) sz) (zW ca ad)) (va_A (zW ca ad M) sz)) args s 0 0 (va_A (zW ca ad M) sz)) 2 [(0, .ref (ad 1)), (1, .int (nI h)), (2, .int (nI i))] [] := by
    intro d
    induction d using Nat.strongRecOn with
    | _ d ih =>
      intro i hd hi hall
      refine xw_iload_n C 2 d_Tl_isCommonMultiple_2 rfl rfl (pc' := 3) rfl ?_
      refine xw_aload_n C 0 d_Tl_isCommonMultiple_3 rfl rfl (pc' := 4) rfl ?_
      refine xw_get C u_Tl 1 zr_1 rfl 1 (by decide) k_126 rfl rfl d_Tl_isCommonMultiple_4 (pc' := 7) rfl ?_
      refine xw_topi (y := nI n) hz ?_
      refine xw_icmp_ge C (tgt := 32) d_Tl_isCommonMultiple_7 (by decide) (pc' := 10) rfl (fun h7 => ?_) (fun h7 => ?_)
      ·
        replace h7 : n ≤ i := (nI_leI (by omega) (by omega)).mp h7
        refine xw_iconst C (v := nI 1) d_Tl_isCommonMultiple_32 (by decide) (pc' := 33) rfl ?_
        refine xw_zret C hr hlk xp_n1 (F := zW ca ad) M rfl ?_ d_Tl_isCommonMultiple_33
        exact ⟨rfl, Or.inl ⟨fun t ht => hall t (by omega), rfl⟩⟩
      ·
        replace h7 : ¬ (n ≤ i) := fun h9 => h7 ((nI_leI (by omega) (by omega)).mpr h9)
        refine xw_iload_n C 1 d_Tl_isCommonMultiple_10 rfl rfl (pc' := 11) rfl ?_
        refine xw_aload_n C 0 d_Tl_isCommonMultiple_11 rfl rfl (pc' := 12) rfl ?_
        refine xw_get C u_Tl 1 zr_1 rfl 0 (by decide) k_123 rfl rfl d_Tl_isCommonMultiple_12 (pc' := 15) rfl ?_
        refine xw_iload_n C 2 d_Tl_isCommonMultiple_15 rfl rfl (pc' := 16) rfl ?_
        refine xw_aald C 2 1 zr_2 rfl i rfl (by omega) (by decide) rfl d_Tl_isCommonMultiple_16 (pc' := 17) rfl ?_
        refine xw_get C u_Tk (14 + i) (zr_Tk (t := i) (by omega)) rfl 0 (by decide) k_91 rfl rfl d_Tl_isCommonMultiple_17 (pc' := 20) rfl ?_
        refine xw_topi (y := nI (per i)) (hper _ (by omega)).1 ?_
        have hpi := hper i (by omega)
        refine xw_irem C d_Tl_isCommonMultiple_20 (nI_ne0 (by omega) (by omega)) (pc' := 21) rfl ?_
        refine xw_topi (y := nI (h % (per i))) (pk_rem (by omega) (by omega) (by omega)) ?_
        have hm20 : h % (per i) < (per i) := Nat.mod_lt _ (by omega)
        refine xw_if_eq C (tgt := 26) d_Tl_isCommonMultiple_21 (by decide) (pc' := 24) rfl (fun h21 => ?_) (fun h21 => ?_)
        ·
          replace h21 : (h % (per i)) = 0 := (xp_eq0 (by omega)).mp h21
          refine xw_iinc C 2 (v := nI (i + 1)) d_Tl_isCommonMultiple_26 rfl (xp_inc1 _) (by decide) rfl (pc' := 29) rfl ?_
          refine xw_goto C (tgt := 2) d_Tl_isCommonMultiple_29 (by decide) ?_
          refine xw_lv [1, 2, 0] rfl ?_
          exact ih (n - (i + 1)) (by omega) (i + 1) rfl (by omega) (fun t ht => by
            rcases Nat.lt_or_ge t i with c9 | c9
            · exact hall t c9
            · rw [show t = i by omega]; exact h21)
        ·
          replace h21 : ¬ ((h % (per i)) = 0) := fun h9 => h21 ((xp_eq0 (by omega)).mpr h9)
          refine xw_iconst C (v := nI 0) d_Tl_isCommonMultiple_24 (by decide) (pc' := 25) rfl ?_
          refine xw_zret C hr hlk xp_n0 (F := zW ca ad) M rfl ?_ d_Tl_isCommonMultiple_25
          exact ⟨rfl, Or.inr ⟨fun h9 => h21 (h9 i (by omega)), rfl⟩⟩
  refine xw_lvE (lv' := [(0, .ref (ad 1)), (1, .int (nI h))]) rfl ?_
  refine xw_iconst C (v := nI 0) d_Tl_isCommonMultiple_0 (by decide) (pc' := 1) rfl ?_
  refine xw_istore_n C d_Tl_isCommonMultiple_1 rfl (by decide) rfl (pc' := 2) rfl ?_
  refine xw_lv [1, 2, 0] rfl ?_
  exact loop1 n 0 rfl (by omega) (fun t ht => by omega)

set_option maxHeartbeats 4000000 in
set_option maxRecDepth 100000 in
/-- commonRound(): the round, or LONG -/
theorem c_Tl_commonRound (l : Launch) (D : va_G) (ca : Nat → ClassId) (ad : Nat → Nat) (M : Nat → Nat → Int32) (n : Nat) (per : Nat → Nat) (hn : n ≤ 6) (hz : M 1 0 = nI n) (hper : ∀ t, t < n → M (14 + t) 0 = nI (per t) ∧ 1 ≤ per t ∧ per t ≤ 48) : xw_Mi l y_Tl_commonRound (.code y_Tl_commonRound b_Tl_commonRound 2 (some .int) :: zG) { frames := 1, cells := 0, slots := 0, locals := 22 } D zCl (zT ca) [.ref (ad 1)] (zW ca ad M) (fun _ => True) 0 0 (zW ca ad) (fun r M' => M' = M ∧ ((∃ h, sp_rd n per h ∧ r = nI h) ∨ sp_no n per ∧ r = -3)) := by
  intro sz
  refine xw_met (cc := b_Tl_commonRound) (maxL := 2) (ret := (some .int)) (by decide) rfl (Nat.le_of_ble_eq_true rfl) (fun p e s m args below meth c hr hlk hnm hsz hKs C => ?_)
  have loop1 : ∀ (d : Nat) (i : Nat), 241 - i = d → 1 ≤ i → i ≤ 241 → (∀ g, 1 ≤ g → g < i → ¬ sp_cm n per g) → XW p l e { frames := 1, cells := 0, slots := 0, locals := 22 } s m args below meth c D zCl (va_A (zW ca ad M) sz) s.heap 2 (zW ca ad M) 0 0 (MQ below (va_Qi (fun r M' => M' = M ∧ ((∃ h, sp_rd n per h ∧ r = nI h) ∨ sp_no n per ∧ r = -3)) (xw_B D zCl (zT ca) (va_A (zW ca ad M) sz) (zW ca ad)) (va_A (zW ca ad M) sz)) args s 0 0 (va_A (zW ca ad M) sz)) 2 [(0, .ref (ad 1)), (1, .int (nI i))] [] := by
    intro d
    induction d using Nat.strongRecOn with
    | _ d ih =>
      intro i hd h1i hi hall
      refine xw_iload_n C 1 d_Tl_commonRound_2 rfl rfl (pc' := 3) rfl ?_
      refine xw_sipush C (v := nI 240) d_Tl_commonRound_3 (by decide) (pc' := 6) rfl ?_
      refine xw_icmp_gt C (tgt := 25) d_Tl_commonRound_6 (by decide) (pc' := 9) rfl (fun h6 => ?_) (fun h6 => ?_)
      ·
        replace h6 : 240 < i := (nI_ltI (by omega) (by omega)).mp h6
        refine xw_bipush C (v := (-3)) d_Tl_commonRound_25 (by decide) (pc' := 27) rfl ?_
        refine xw_iret C hr hlk (F := zW ca ad) M rfl ?_ d_Tl_commonRound_27
        exact ⟨rfl, Or.inr ⟨fun g h1 h2 => hall g h1 (by omega), rfl⟩⟩
      ·
        replace h6 : ¬ (240 < i) := fun h9 => h6 ((nI_ltI (by omega) (by omega)).mpr h9)
        refine xw_aload_n C 0 d_Tl_commonRound_9 rfl rfl (pc' := 10) rfl ?_
        refine xw_iload_n C 1 d_Tl_commonRound_10 rfl rfl (pc' := 11) rfl ?_
        refine xw_callVi C (c_Tl_isCommonMultiple l D ca ad M n per i hn hz hper (by omega)) ⟨zg_B C 1 k_215 k_25 k_218 q_Tl_isCommonMultiple ⟨by decide, by decide⟩, C.2.2.2.2.1 _ k_217, C.2.2.2.2.1 _ k_0⟩ 1 zr_1 rfl rfl (fun _ _ _ _ h => h) (fun _ _ _ _ _ _ _ => trivial) rfl rfl (Nat.le_of_ble_eq_true rfl) d_Tl_commonRound_11 ⟨by decide, by decide⟩ (pc' := 14) rfl (fun r51 M52 hp53 => ?_)
        obtain ⟨hme, hp53⟩ := hp53
        rw [hme]
        clear hme
        rcases hp53 with ⟨hcm, rfl⟩ | ⟨hcm, rfl⟩
        ·
          refine xw_if_eq C (tgt := 19) d_Tl_commonRound_14 (by decide) (pc' := 17) rfl (fun h14 => ?_) (fun h14 => ?_)
          ·
            replace h14 : 1 = 0 := (xp_eq0 (by omega)).mp h14
            omega
          ·
            replace h14 : ¬ (1 = 0) := fun h9 => h14 ((xp_eq0 (by omega)).mpr h9)
            refine xw_iload_n C 1 d_Tl_commonRound_17 rfl rfl (pc' := 18) rfl ?_
            refine xw_iret C hr hlk (F := zW ca ad) M rfl ?_ d_Tl_commonRound_18
            exact ⟨rfl, Or.inl ⟨i, ⟨by omega, by omega, hcm, hall⟩, rfl⟩⟩
        ·
          refine xw_if_eq C (tgt := 19) d_Tl_commonRound_14 (by decide) (pc' := 17) rfl (fun h14 => ?_) (fun h14 => ?_)
          ·
            replace h14 : 0 = 0 := (xp_eq0 (by omega)).mp h14
            refine xw_iinc C 1 (v := nI (i + 1)) d_Tl_commonRound_19 rfl (xp_inc1 _) (by decide) rfl (pc' := 22) rfl ?_
            refine xw_goto C (tgt := 2) d_Tl_commonRound_22 (by decide) ?_
            refine xw_lv [1, 0] rfl ?_
            exact ih (241 - (i + 1)) (by omega) (i + 1) rfl (by omega) (by omega) (fun g h1 h2 => by
              rcases Nat.lt_or_ge g i with c9 | c9
              · exact hall g h1 c9
              · rw [show g = i by omega]; exact hcm)
          ·
            replace h14 : ¬ (0 = 0) := fun h9 => h14 ((xp_eq0 (by omega)).mpr h9)
            omega
  refine xw_lvE (lv' := [(0, .ref (ad 1))]) rfl ?_
  refine xw_iconst C (v := nI 1) d_Tl_commonRound_0 (by decide) (pc' := 1) rfl ?_
  refine xw_istore_n C d_Tl_commonRound_1 rfl (by decide) rfl (pc' := 2) rfl ?_
  refine xw_lv [1, 0] rfl ?_
  exact loop1 240 1 rfl (by omega) (by omega) (fun g h1 h2 => by omega)
end
section
/-- a task comes at tm -/
abbrev sp_rel (o pr tm : Nat) : Prop := o ≤ tm ∧ (tm - o) % pr = 0
/-- how many of the m ticks from f on go to t -/
def sp_cnt (g : Nat → Int32) (t h f m : Nat) : Nat := xs_sm (fun j => if g ((f + j) % h) = nI t then 1 else 0) m
theorem sp_cnt_le (g : Nat → Int32) (t h f m : Nat) : sp_cnt g t h f m ≤ m := by
  unfold sp_cnt
  induction m with
  | zero => exact Nat.le_refl _
  | succ m ih =>
    show xs_sm _ m + (if g ((f + m) % h) = nI t then 1 else 0) ≤ m + 1
    by_cases c : g ((f + m) % h) = nI t
    · rw [if_pos c]; omega
    · rw [if_neg c]; omega
theorem sp_cnt_s1 {g : Nat → Int32} {t h f m : Nat} (c : g ((f + m) % h) = nI t) : sp_cnt g t h f (m + 1) = sp_cnt g t h f m + 1 := by
  show xs_sm _ m + (if g ((f + m) % h) = nI t then 1 else 0) = _
  rw [if_pos c]; rfl
theorem sp_cnt_s0 {g : Nat → Int32} {t h f m : Nat} (c : ¬ g ((f + m) % h) = nI t) : sp_cnt g t h f (m + 1) = sp_cnt g t h f m := by
  show xs_sm _ m + (if g ((f + m) % h) = nI t then 1 else 0) = _
  rw [if_neg c]; rfl
def sp_srv (g : Nat → Int32) (t h pr w d o : Nat) : Prop := ∀ k, k < h / pr → sp_cnt g t h (o + k * pr) d = w ∧ sp_cnt g t h (o + k * pr + d) (pr - d) = 0
/-- the memory behind Job.start, Task.forgetRun, Task.endJob -/
def zJob (M : Nat → Nat → Int32) (t : Nat) (fp tm : Int32) : Nat → Nat → Int32 := zst (zst (zst (zst (zfl M (26 + t) 4 (nI 0)) (20 + t) 0 fp) (20 + t) 1 (nI 0)) (20 + t) 2 tm) (20 + t) 3 (nI 1)
def zFor (M : Nat → Nat → Int32) (t : Nat) : Nat → Nat → Int32 := zfl (zst M (20 + t) 3 (nI 0)) (32 + t) 4 (nI 0)
def zEn1 (M : Nat → Nat → Int32) (t o : Nat) : Nat → Nat → Int32 := zst (zst M (20 + t) 3 (nI 0)) (32 + t) (o - 1) (zst M (20 + t) 3 (nI 0) (32 + t) (o - 1) + nI 1)
def zEn2 (M : Nat → Nat → Int32) (t : Nat) (tm : Int32) : Nat → Nat → Int32 := zst M (32 + t) 3 (if M (32 + t) 3 < tm - M (20 + t) 2 then tm - M (20 + t) 2 else M (32 + t) 3)
/-- the tasks' numbers -/
def tkOK (M : Nat → Nat → Int32) (n : Nat) (per wk dl of : Nat → Nat) : Prop := n ≤ 6 ∧ M 1 0 = nI n ∧ ∀ t, t < n → M (14 + t) 0 = nI (per t) ∧ M (14 + t) 1 = nI (wk t) ∧ M (14 + t) 2 = nI (dl t) ∧ M (14 + t) 3 = nI (of t) ∧ 1 ≤ wk t ∧ wk t ≤ dl t ∧ dl t ≤ per t ∧ per t ≤ 48 ∧ of t ≤ 48
theorem tkOK.per {M : Nat → Nat → Int32} {n : Nat} {per wk dl of : Nat → Nat} (h : tkOK M n per wk dl of) : ∀ t, t < n → M (14 + t) 0 = nI (per t) ∧ 1 ≤ per t ∧ per t ≤ 48 := fun t ht => by
  have q := h.2.2 t ht
  exact ⟨q.1, by omega, by omega⟩
theorem tkOK.keep {M M1 : Nat → Nat → Int32} {n : Nat} {per wk dl of : Nat → Nat} (h : tkOK M n per wk dl of) (h1 : M1 1 0 = M 1 0) (h2 : ∀ t j, t < 6 → M1 (14 + t) j = M (14 + t) j) : tkOK M1 n per wk dl of := by
  obtain ⟨a, b, c⟩ := h
  refine ⟨a, h1.trans b, fun t ht => ?_⟩
  have q := c t ht
  rw [h2 t 0 (by omega), h2 t 1 (by omega), h2 t 2 (by omega), h2 t 3 (by omega)]
  exact q

set_option maxHeartbeats 4000000 in
set_option maxRecDepth 100000 in
/-- releasesAt(tm) -/
theorem c_Tk_releasesAt (l : Launch) (D : va_G) (ca : Nat → ClassId) (ad : Nat → Nat) (M : Nat → Nat → Int32) (t tm o pr : Nat) (ht : t < 6) (htm : tm < 2 ^ 31) (ho : M (14 + t) 3 = nI o) (hob : o < 2 ^ 31) (hp : M (14 + t) 0 = nI pr) (hp1 : 1 ≤ pr) (hp2 : pr < 2 ^ 31) : xw_Mi l y_Tk_releasesAt (.code y_Tk_releasesAt b_Tk_releasesAt 2 (some .boolean) :: zG) { frames := 0, cells := 0, slots := 0, locals := 0 } D zCl (zT ca) [.ref (ad (14 + t)), .int (nI tm)] (zW ca ad M) (fun _ => True) 0 0 (zW ca ad) (fun r M' => M' = M ∧ (sp_rel o pr tm ∧ r = nI 1 ∨ ¬ sp_rel o pr tm ∧ r = nI 0)) := by
  intro sz
  refine xw_met (cc := b_Tk_releasesAt) (maxL := 2) (ret := (some .boolean)) (by decide) rfl (Nat.le_of_ble_eq_true rfl) (fun p e s m args below meth c hr hlk hnm hsz hKs C => ?_)
  refine xw_lvE (lv' := [(0, .ref (ad (14 + t))), (1, .int (nI tm))]) rfl ?_
  refine xw_iload_n C 1 d_Tk_releasesAt_0 rfl rfl (pc' := 1) rfl ?_
  refine xw_aload_n C 0 d_Tk_releasesAt_1 rfl rfl (pc' := 2) rfl ?_
  refine xw_get C u_Tk (14 + t) (zr_Tk (t := t) (by omega)) rfl 3 (by decide) k_99 rfl rfl d_Tk_releasesAt_2 (pc' := 5) rfl ?_
  refine xw_topi (y := nI o) ho ?_
  refine xw_icmp_lt C (tgt := 26) d_Tk_releasesAt_5 (by decide) (pc' := 8) rfl (fun h5 => ?_) (fun h5 => ?_)
  ·
    replace h5 : tm < o := (nI_ltI (by omega) (by omega)).mp h5
    refine xw_iconst C (v := nI 0) d_Tk_releasesAt_26 (by decide) (pc' := 27) rfl ?_
    refine xw_zret C hr hlk xp_n0 (F := zW ca ad) M rfl ?_ d_Tk_releasesAt_27
    exact ⟨rfl, Or.inr ⟨fun h9 => by obtain ⟨h8, h9⟩ := h9; omega, rfl⟩⟩
  ·
    replace h5 : ¬ (tm < o) := fun h9 => h5 ((nI_ltI (by omega) (by omega)).mpr h9)
    refine xw_iload_n C 1 d_Tk_releasesAt_8 rfl rfl (pc' := 9) rfl ?_
    refine xw_aload_n C 0 d_Tk_releasesAt_9 rfl rfl (pc' := 10) rfl ?_
    refine xw_get C u_Tk (14 + t) (zr_Tk (t := t) (by omega)) rfl 3 (by decide) k_99 rfl rfl d_Tk_releasesAt_10 (pc' := 13) rfl ?_
    refine xw_topi (y := nI o) ho ?_
    refine xw_isub C d_Tk_releasesAt_13 (pc' := 14) rfl ?_
    refine xw_topi (y := nI (tm - o)) (pk_sub (by omega)) ?_
    refine xw_aload_n C 0 d_Tk_releasesAt_14 rfl rfl (pc' := 15) rfl ?_
    refine xw_get C u_Tk (14 + t) (zr_Tk (t := t) (by omega)) rfl 0 (by decide) k_90 rfl rfl d_Tk_releasesAt_15 (pc' := 18) rfl ?_
    refine xw_topi (y := nI pr) hp ?_
    refine xw_irem C d_Tk_releasesAt_18 (nI_ne0 (by omega) (by omega)) (pc' := 19) rfl ?_
    refine xw_topi (y := nI ((tm - o) % pr)) (pk_rem (by omega) (by omega) (by omega)) ?_
    have hm18 : (tm - o) % pr < pr := Nat.mod_lt _ (by omega)
    refine xw_if_ne C (tgt := 26) d_Tk_releasesAt_19 (by decide) (pc' := 22) rfl (fun h19 => ?_) (fun h19 => ?_)
    ·
      replace h19 : ¬ (((tm - o) % pr) = 0) := fun h9 => h19 ((xp_eq0 (by omega)).mpr h9)
      refine xw_iconst C (v := nI 0) d_Tk_releasesAt_26 (by decide) (pc' := 27) rfl ?_
      refine xw_zret C hr hlk xp_n0 (F := zW ca ad) M rfl ?_ d_Tk_releasesAt_27
      exact ⟨rfl, Or.inr ⟨fun h9 => by obtain ⟨h8, h9⟩ := h9; omega, rfl⟩⟩
    ·
      replace h19 : ((tm - o) % pr) = 0 := (xp_eq0 (by omega)).mp h19
      refine xw_iconst C (v := nI 1) d_Tk_releasesAt_22 (by decide) (pc' := 23) rfl ?_
      refine xw_goto C (tgt := 27) d_Tk_releasesAt_23 (by decide) ?_
      refine xw_zret C hr hlk xp_n1 (F := zW ca ad) M rfl ?_ d_Tk_releasesAt_27
      exact ⟨rfl, Or.inl ⟨⟨by omega, h19⟩, rfl⟩⟩

set_option maxHeartbeats 4000000 in
set_option maxRecDepth 100000 in
/-- forgetRun() -/
theorem c_Tk_forgetRun (l : Launch) (D : va_G) (ca : Nat → ClassId) (ad : Nat → Nat) (M : Nat → Nat → Int32) (t : Nat) (ht : t < 6) : xw_Mv l y_Tk_forgetRun (.code y_Tk_forgetRun b_Tk_forgetRun 1 none :: zG) { frames := 1, cells := 0, slots := 0, locals := 23 } D zCl (zT ca) [.ref (ad (14 + t))] (zW ca ad M) (fun _ => True) 0 0 (zW ca ad) (fun M' => M' = zFor M t) := by
  intro sz
  refine xw_met (cc := b_Tk_forgetRun) (maxL := 1) (ret := none) (by decide) rfl (Nat.le_of_ble_eq_true rfl) (fun p e s m args below meth c hr hlk hnm hsz hKs C => ?_)
  refine xw_lvE (lv' := [(0, .ref (ad (14 + t)))]) rfl ?_
  refine xw_aload_n C 0 d_Tk_forgetRun_0 rfl rfl (pc' := 1) rfl ?_
  refine xw_get C u_Tk (14 + t) (zr_Tk (t := t) (by omega)) rfl 5 (by decide) k_103 rfl rfl d_Tk_forgetRun_1 (pc' := 4) rfl ?_
  refine xw_iconst C (v := nI 0) d_Tk_forgetRun_4 (by decide) (pc' := 5) rfl ?_
  obtain ⟨M1, hM1⟩ : ∃ z, z = zst M (20 + t) 3 (nI 0) := ⟨_, rfl⟩
  refine xw_put C u_Jb t_Jb t_Jb_ok n_Jb (20 + t) (zr_Jb (t := t) (by omega)) rfl 4 (by decide) k_76 rfl rfl (t_Jb_ok 4 (by decide)) xp_n0 rfl (Nat.le_of_ble_eq_true rfl) (ws' := zW ca ad M1) (by rw [hM1]; exact zs_Jb_3 (t := t) (by omega) _) d_Tk_forgetRun_5 (pc' := 8) rfl ?_
  refine xw_aload_n C 0 d_Tk_forgetRun_8 rfl rfl (pc' := 9) rfl ?_
  refine xw_get C u_Tk (14 + t) (zr_Tk (t := t) (by omega)) rfl 6 (by decide) k_106 rfl rfl d_Tk_forgetRun_9 (pc' := 12) rfl ?_
  refine xw_iconst C (v := nI 0) d_Tk_forgetRun_12 (by decide) (pc' := 13) rfl ?_
  refine xw_callSv C (c_Ar_fill l D ca ad M1 (32 + t) 4 (nI 0) (by omega) (fun _ => zC_ct (t := t) (by omega) _) (by decide)) ⟨zg_B C 2 k_363 k_38 k_365 q_Ar_fill ⟨by decide, by decide⟩, C.2.2.2.2.1 _ k_364⟩ (fun _ _ _ _ h => h) (fun _ _ _ _ _ _ _ => trivial) rfl rfl (Nat.le_of_ble_eq_true rfl) d_Tk_forgetRun_13 ⟨by decide, by decide⟩ (pc' := 16) rfl (fun M3 hp4 => ?_)
  have hM3 := hp4
  refine xw_vret C hr hlk (F := zW ca ad) M3 rfl ?_ d_Tk_forgetRun_16
  rw [hM3, hM1]; rfl

set_option maxHeartbeats 4000000 in
set_option maxRecDepth 100000 in
/-- start(fp, tm) -/
theorem c_Jb_start (l : Launch) (D : va_G) (ca : Nat → ClassId) (ad : Nat → Nat) (M : Nat → Nat → Int32) (t : Nat) (fp tm : Int32) (ht : t < 6) : xw_Mv l y_Jb_start (.code y_Jb_start b_Jb_start 3 none :: zG) { frames := 1, cells := 0, slots := 0, locals := 23 } D zCl (zT ca) [.ref (ad (20 + t)), .int fp, .int tm] (zW ca ad M) (fun _ => True) 0 0 (zW ca ad) (fun M' => M' = zJob M t fp tm) := by
  intro sz
  refine xw_met (cc := b_Jb_start) (maxL := 3) (ret := none) (by decide) rfl (Nat.le_of_ble_eq_true rfl) (fun p e s m args below meth c hr hlk hnm hsz hKs C => ?_)
  refine xw_lvE (lv' := [(0, .ref (ad (20 + t))), (1, .int fp), (2, .int tm)]) rfl ?_
  refine xw_aload_n C 0 d_Jb_start_0 rfl rfl (pc' := 1) rfl ?_
  refine xw_get C u_Jb (20 + t) (zr_Jb (t := t) (by omega)) rfl 0 (by decide) k_67 rfl rfl d_Jb_start_1 (pc' := 4) rfl ?_
  refine xw_iconst C (v := nI 0) d_Jb_start_4 (by decide) (pc' := 5) rfl ?_
  refine xw_callSv C (c_Ar_fill l D ca ad M (26 + t) 4 (nI 0) (by omega) (fun _ => zC_rg (t := t) (by omega) _) (by decide)) ⟨zg_B C 2 k_519 k_38 k_365 q_Ar_fill ⟨by decide, by decide⟩, C.2.2.2.2.1 _ k_364⟩ (fun _ _ _ _ h => h) (fun _ _ _ _ _ _ _ => trivial) rfl rfl (Nat.le_of_ble_eq_true rfl) d_Jb_start_5 ⟨by decide, by decide⟩ (pc' := 8) rfl (fun M2 hp3 => ?_)
  have hM2 := hp3
  refine xw_aload_n C 0 d_Jb_start_8 rfl rfl (pc' := 9) rfl ?_
  refine xw_iload_n C 1 d_Jb_start_9 rfl rfl (pc' := 10) rfl ?_
  obtain ⟨M4, hM4⟩ : ∃ z, z = zst M2 (20 + t) 0 fp := ⟨_, rfl⟩
  refine xw_put C u_Jb t_Jb t_Jb_ok n_Jb (20 + t) (zr_Jb (t := t) (by omega)) rfl 1 (by decide) k_70 rfl rfl (t_Jb_ok 1 (by decide)) rfl rfl (Nat.le_of_ble_eq_true rfl) (ws' := zW ca ad M4) (by rw [hM4]; exact zs_Jb_0 (t := t) (by omega) _) d_Jb_start_10 (pc' := 13) rfl ?_
  refine xw_aload_n C 0 d_Jb_start_13 rfl rfl (pc' := 14) rfl ?_
  refine xw_iconst C (v := nI 0) d_Jb_start_14 (by decide) (pc' := 15) rfl ?_
  obtain ⟨M5, hM5⟩ : ∃ z, z = zst M4 (20 + t) 1 (nI 0) := ⟨_, rfl⟩
  refine xw_put C u_Jb t_Jb t_Jb_ok n_Jb (20 + t) (zr_Jb (t := t) (by omega)) rfl 2 (by decide) k_71 rfl rfl (t_Jb_ok 2 (by decide)) rfl rfl (Nat.le_of_ble_eq_true rfl) (ws' := zW ca ad M5) (by rw [hM5]; exact zs_Jb_1 (t := t) (by omega) _) d_Jb_start_15 (pc' := 18) rfl ?_
  refine xw_aload_n C 0 d_Jb_start_18 rfl rfl (pc' := 19) rfl ?_
  refine xw_iload_n C 2 d_Jb_start_19 rfl rfl (pc' := 20) rfl ?_
  obtain ⟨M6, hM6⟩ : ∃ z, z = zst M5 (20 + t) 2 tm := ⟨_, rfl⟩
  refine xw_put C u_Jb t_Jb t_Jb_ok n_Jb (20 + t) (zr_Jb (t := t) (by omega)) rfl 3 (by decide) k_73 rfl rfl (t_Jb_ok 3 (by decide)) rfl rfl (Nat.le_of_ble_eq_true rfl) (ws' := zW ca ad M6) (by rw [hM6]; exact zs_Jb_2 (t := t) (by omega) _) d_Jb_start_20 (pc' := 23) rfl ?_
  refine xw_aload_n C 0 d_Jb_start_23 rfl rfl (pc' := 24) rfl ?_
  refine xw_iconst C (v := nI 1) d_Jb_start_24 (by decide) (pc' := 25) rfl ?_
  obtain ⟨M7, hM7⟩ : ∃ z, z = zst M6 (20 + t) 3 (nI 1) := ⟨_, rfl⟩
  refine xw_put C u_Jb t_Jb t_Jb_ok n_Jb (20 + t) (zr_Jb (t := t) (by omega)) rfl 4 (by decide) k_75 rfl rfl (t_Jb_ok 4 (by decide)) xp_n1 rfl (Nat.le_of_ble_eq_true rfl) (ws' := zW ca ad M7) (by rw [hM7]; exact zs_Jb_3 (t := t) (by omega) _) d_Jb_start_25 (pc' := 28) rfl ?_
  refine xw_vret C hr hlk (F := zW ca ad) M7 rfl ?_ d_Jb_start_28
  subst hM7 hM6 hM5 hM4
  rw [hM2]; rfl

set_option maxHeartbeats 4000000 in
set_option maxRecDepth 100000 in
/-- endJob(o, tm) -/
theorem c_Tk_endJob (l : Launch) (D : va_G) (ca : Nat → ClassId) (ad : Nat → Nat) (M : Nat → Nat → Int32) (t o : Nat) (tm : Int32) (ht : t < 6) (ho1 : 1 ≤ o) (ho3 : o ≤ 3) : xw_Mv l y_Tk_endJob (.code y_Tk_endJob b_Tk_endJob 3 none :: zG) { frames := 1, cells := 0, slots := 0, locals := 21 } D zCl (zT ca) [.ref (ad (14 + t)), .int (nI o), .int tm] (zW ca ad M) (fun _ => True) 0 0 (zW ca ad) (fun M' => M' = if o = 1 then zEn2 (zEn1 M t o) t tm else zEn1 M t o) := by
  intro sz
  refine xw_met (cc := b_Tk_endJob) (maxL := 3) (ret := none) (by decide) rfl (Nat.le_of_ble_eq_true rfl) (fun p e s m args below meth c hr hlk hnm hsz hKs C => ?_)
  refine xw_lvE (lv' := [(0, .ref (ad (14 + t))), (1, .int (nI o)), (2, .int tm)]) rfl ?_
  refine xw_aload_n C 0 d_Tk_endJob_0 rfl rfl (pc' := 1) rfl ?_
  refine xw_get C u_Tk (14 + t) (zr_Tk (t := t) (by omega)) rfl 5 (by decide) k_103 rfl rfl d_Tk_endJob_1 (pc' := 4) rfl ?_
  refine xw_iconst C (v := nI 0) d_Tk_endJob_4 (by decide) (pc' := 5) rfl ?_
  obtain ⟨M1, hM1⟩ : ∃ z, z = zst M (20 + t) 3 (nI 0) := ⟨_, rfl⟩
  refine xw_put C u_Jb t_Jb t_Jb_ok n_Jb (20 + t) (zr_Jb (t := t) (by omega)) rfl 4 (by decide) k_76 rfl rfl (t_Jb_ok 4 (by decide)) xp_n0 rfl (Nat.le_of_ble_eq_true rfl) (ws' := zW ca ad M1) (by rw [hM1]; exact zs_Jb_3 (t := t) (by omega) _) d_Tk_endJob_5 (pc' := 8) rfl ?_
  refine xw_aload_n C 0 d_Tk_endJob_8 rfl rfl (pc' := 9) rfl ?_
  refine xw_get C u_Tk (14 + t) (zr_Tk (t := t) (by omega)) rfl 6 (by decide) k_106 rfl rfl d_Tk_endJob_9 (pc' := 12) rfl ?_
  refine xw_iload_n C 1 d_Tk_endJob_12 rfl rfl (pc' := 13) rfl ?_
  refine xw_iconst C (v := nI 1) d_Tk_endJob_13 (by decide) (pc' := 14) rfl ?_
  refine xw_isub C d_Tk_endJob_14 (pc' := 15) rfl ?_
  refine xw_topi (y := nI (o - 1)) (pk_sub (by omega)) ?_
  refine xw_dup2_11 C d_Tk_endJob_15 rfl rfl (pc' := 16) rfl ?_
  refine xw_iald C (32 + t) 0 (zr_ct (t := t) (by omega)) rfl (o - 1) rfl (by omega) (by decide) d_Tk_endJob_16 (pc' := 17) rfl ?_
  refine xw_iconst C (v := nI 1) d_Tk_endJob_17 (by decide) (pc' := 18) rfl ?_
  refine xw_iadd C d_Tk_endJob_18 (pc' := 19) rfl ?_
  obtain ⟨M2, hM2⟩ : ∃ z, z = zst M1 (32 + t) (o - 1) ((M1 (32 + t) (o - 1)) + (nI 1)) := ⟨_, rfl⟩
  refine xw_iast C (32 + t) 0 (zr_ct (t := t) (by omega)) rfl (o - 1) rfl (by omega) (by decide) (ws' := zW ca ad M2) (by rw [hM2]; exact zs_ct (t := t) (by omega) _ _) d_Tk_endJob_19 (pc' := 20) rfl ?_
  refine xw_iload_n C 1 d_Tk_endJob_20 rfl rfl (pc' := 21) rfl ?_
  refine xw_iconst C (v := nI 1) d_Tk_endJob_21 (by decide) (pc' := 22) rfl ?_
  refine xw_icmp_ne C (tgt := 49) d_Tk_endJob_22 (by decide) (pc' := 25) rfl (fun h22 => ?_) (fun h22 => ?_)
  ·
    replace h22 : ¬ (o = 1) := fun h9 => h22 ((nI_eq (by omega) (by omega)).mpr h9)
    refine xw_vret C hr hlk (F := zW ca ad) M2 rfl ?_ d_Tk_endJob_49
    rw [if_neg h22]
    subst hM2 hM1
    rfl
  ·
    replace h22 : o = 1 := (nI_eq (by omega) (by omega)).mp h22
    refine xw_aload_n C 0 d_Tk_endJob_25 rfl rfl (pc' := 26) rfl ?_
    refine xw_get C u_Tk (14 + t) (zr_Tk (t := t) (by omega)) rfl 6 (by decide) k_106 rfl rfl d_Tk_endJob_26 (pc' := 29) rfl ?_
    refine xw_iconst C (v := nI 3) d_Tk_endJob_29 (by decide) (pc' := 30) rfl ?_
    refine xw_aload_n C 0 d_Tk_endJob_30 rfl rfl (pc' := 31) rfl ?_
    refine xw_get C u_Tk (14 + t) (zr_Tk (t := t) (by omega)) rfl 6 (by decide) k_106 rfl rfl d_Tk_endJob_31 (pc' := 34) rfl ?_
    refine xw_iconst C (v := nI 3) d_Tk_endJob_34 (by decide) (pc' := 35) rfl ?_
    refine xw_iald C (32 + t) 0 (zr_ct (t := t) (by omega)) rfl 3 rfl (by omega) (by decide) d_Tk_endJob_35 (pc' := 36) rfl ?_
    refine xw_iload_n C 2 d_Tk_endJob_36 rfl rfl (pc' := 37) rfl ?_
    refine xw_aload_n C 0 d_Tk_endJob_37 rfl rfl (pc' := 38) rfl ?_
    refine xw_get C u_Tk (14 + t) (zr_Tk (t := t) (by omega)) rfl 5 (by decide) k_103 rfl rfl d_Tk_endJob_38 (pc' := 41) rfl ?_
    refine xw_get C u_Jb (20 + t) (zr_Jb (t := t) (by omega)) rfl 3 (by decide) k_74 rfl rfl d_Tk_endJob_41 (pc' := 44) rfl ?_
    refine xw_isub C d_Tk_endJob_44 (pc' := 45) rfl ?_
    refine xw_callSi C (c_Ma_max l D ca ad M2 (M2 (32 + t) 3) (tm - (M2 (20 + t) 2))) ⟨zg_B C 2 k_541 k_39 k_402 q_Ma_max ⟨by decide, by decide⟩, C.2.2.2.2.1 _ k_401⟩ (fun _ _ _ _ h => h) (fun _ _ _ _ _ _ _ => trivial) rfl rfl (Nat.le_of_ble_eq_true rfl) d_Tk_endJob_45 ⟨by decide, by decide⟩ (pc' := 48) rfl (fun r3 M4 hp5 => ?_)
    obtain ⟨hme, hre⟩ := hp5
    rw [hme, hre]
    clear hme hre
    obtain ⟨M6, hM6⟩ : ∃ z, z = zst M2 (32 + t) 3 (if (M2 (32 + t) 3) < (tm - (M2 (20 + t) 2)) then tm - (M2 (20 + t) 2) else M2 (32 + t) 3) := ⟨_, rfl⟩
    refine xw_iast C (32 + t) 0 (zr_ct (t := t) (by omega)) rfl 3 rfl (by omega) (by decide) (ws' := zW ca ad M6) (by rw [hM6]; exact zs_ct (t := t) (by omega) _ _) d_Tk_endJob_48 (pc' := 49) rfl ?_
    refine xw_vret C hr hlk (F := zW ca ad) M6 rfl ?_ d_Tk_endJob_49
    rw [if_pos h22]
    subst hM6 hM2 hM1
    rfl

set_option maxHeartbeats 4000000 in
set_option maxRecDepth 100000 in
/-- ticksOf: how many of mm ticks from f on are t's -/
theorem c_Tk_ticksOf (l : Launch) (D : va_G) (ca : Nat → ClassId) (ad : Nat → Nat) (M : Nat → Nat → Int32) (t h f mm : Nat) (hh1 : 1 ≤ h) (hh : h ≤ 240) (hf : f < 2 ^ 20) (hm : mm < 2 ^ 20) : xw_Mi l y_Tk_ticksOf (.code y_Tk_ticksOf b_Tk_ticksOf 7 (some .int) :: zG) { frames := 0, cells := 0, slots := 0, locals := 0 } D zCl (zT ca) [.int (nI t), .int (nI f), .int (nI mm), .ref (ad 13), .int (nI h)] (zW ca ad M) (fun _ => True) 0 0 (zW ca ad) (fun r M' => M' = M ∧ r = nI (sp_cnt (M 13) t h f mm)) := by
  intro sz
  refine xw_met (cc := b_Tk_ticksOf) (maxL := 7) (ret := (some .int)) (by decide) rfl (Nat.le_of_ble_eq_true rfl) (fun p e s m args below meth c hr hlk hnm hsz hKs C => ?_)
  have loop1 : ∀ (d : Nat) (i q : Nat), mm - i = d → i ≤ mm → q = sp_cnt (M 13) t h f i → XW p l e { frames := 0, cells := 0, slots := 0, locals := 0 } s m args below meth c D zCl (va_A (zW ca ad M) sz) s.heap 7 (zW ca ad M) 0 0 (MQ below (va_Qi (fun r M' => M' = M ∧ r = nI (sp_cnt (M 13) t h f mm)) (xw_B D zCl (zT ca) (va_A (zW ca ad M) sz) (zW ca ad)) (va_A (zW ca ad M) sz)) args s 0 0 (va_A (zW ca ad M) sz)) 6 [(0, .int (nI t)), (1, .int (nI f)), (2, .int (nI mm)), (3, .ref (ad 13)), (4, .int (nI h)), (5, .int (nI q)), (6, .int (nI (f + i)))] [] := by
    intro d
    induction d using Nat.strongRecOn with
    | _ d ih =>
      intro i q hd hi hq
      refine xw_iload C 6 d_Tk_ticksOf_6 rfl (pc' := 8) rfl ?_
      refine xw_iload_n C 1 d_Tk_ticksOf_8 rfl rfl (pc' := 9) rfl ?_
      refine xw_iload_n C 2 d_Tk_ticksOf_9 rfl rfl (pc' := 10) rfl ?_
      refine xw_iadd C d_Tk_ticksOf_10 (pc' := 11) rfl ?_
      refine xw_topi (y := nI (f + mm)) (nI_add _ _) ?_
      have hqi := sp_cnt_le (M 13) t h f i
      refine xw_icmp_ge C (tgt := 34) d_Tk_ticksOf_11 (by decide) (pc' := 14) rfl (fun h11 => ?_) (fun h11 => ?_)
      ·
        replace h11 : (f + mm) ≤ (f + i) := (nI_leI (by omega) (by omega)).mp h11
        refine xw_iload C 5 d_Tk_ticksOf_34 rfl (pc' := 36) rfl ?_
        refine xw_iret C hr hlk (F := zW ca ad) M rfl ?_ d_Tk_ticksOf_36
        exact ⟨rfl, by rw [hq, show i = mm by omega]⟩
      ·
        replace h11 : ¬ ((f + mm) ≤ (f + i)) := fun h9 => h11 ((nI_leI (by omega) (by omega)).mpr h9)
        refine xw_aload_n C 3 d_Tk_ticksOf_14 rfl rfl (pc' := 15) rfl ?_
        refine xw_iload C 6 d_Tk_ticksOf_15 rfl (pc' := 17) rfl ?_
        refine xw_iload C 4 d_Tk_ticksOf_17 rfl (pc' := 19) rfl ?_
        refine xw_irem C d_Tk_ticksOf_19 (nI_ne0 (by omega) (by omega)) (pc' := 20) rfl ?_
        refine xw_topi (y := nI ((f + i) % h)) (pk_rem (by omega) (by omega) (by omega)) ?_
        have hm19 : (f + i) % h < h := Nat.mod_lt _ (by omega)
        refine xw_iald C 13 0 zr_13 rfl ((f + i) % h) rfl (by omega) (by decide) d_Tk_ticksOf_20 (pc' := 21) rfl ?_
        refine xw_iload_n C 0 d_Tk_ticksOf_21 rfl rfl (pc' := 22) rfl ?_
        refine xw_icmp_ne C (tgt := 28) d_Tk_ticksOf_22 (by decide) (pc' := 25) rfl (fun h22 => ?_) (fun h22 => ?_)
        ·
          refine xw_iinc C 6 (v := nI ((f + i) + 1)) d_Tk_ticksOf_28 rfl (xp_inc1 _) (by decide) rfl (pc' := 31) rfl ?_
          refine xw_goto C (tgt := 6) d_Tk_ticksOf_31 (by decide) ?_
          refine xw_lv [1, 2, 3, 4, 5, 6, 0] rfl ?_
          exact ih (mm - (i + 1)) (by omega) (i + 1) q rfl (by omega) (by rw [hq]; exact (sp_cnt_s0 h22).symm)
        ·
          refine xw_iinc C 5 (v := nI (q + 1)) d_Tk_ticksOf_25 rfl (xp_inc1 _) (by decide) rfl (pc' := 28) rfl ?_
          refine xw_iinc C 6 (v := nI ((f + i) + 1)) d_Tk_ticksOf_28 rfl (xp_inc1 _) (by decide) rfl (pc' := 31) rfl ?_
          refine xw_goto C (tgt := 6) d_Tk_ticksOf_31 (by decide) ?_
          refine xw_lv [2, 3, 4, 5, 6, 1, 0] rfl ?_
          exact ih (mm - (i + 1)) (by omega) (i + 1) (q + 1) rfl (by omega) (by rw [hq]; exact (sp_cnt_s1 h22).symm)
  refine xw_lvE (lv' := [(0, .int (nI t)), (1, .int (nI f)), (2, .int (nI mm)), (3, .ref (ad 13)), (4, .int (nI h))]) rfl ?_
  refine xw_iconst C (v := nI 0) d_Tk_ticksOf_0 (by decide) (pc' := 1) rfl ?_
  refine xw_istore C d_Tk_ticksOf_1 (by decide) rfl (pc' := 3) rfl ?_
  refine xw_iload_n C 2 d_Tk_ticksOf_3 rfl rfl (pc' := 4) rfl ?_
  refine xw_istore C d_Tk_ticksOf_4 (by decide) rfl (pc' := 6) rfl ?_
  refine xw_lv [2, 3, 4, 5, 6, 1, 0] rfl ?_
  exact loop1 mm 0 0 rfl (by omega) rfl

set_option maxHeartbeats 4000000 in
set_option maxRecDepth 100000 in
/-- isServed -/
theorem c_Tk_isServed (l : Launch) (D : va_G) (ca : Nat → ClassId) (ad : Nat → Nat) (M : Nat → Nat → Int32) (t h pr wk dl of : Nat) (ht : t < 6) (hh1 : 1 ≤ h) (hh : h ≤ 240) (hpr : M (14 + t) 0 = nI pr) (hwk : M (14 + t) 1 = nI wk) (hdl : M (14 + t) 2 = nI dl) (hof : M (14 + t) 3 = nI of) (hb : 1 ≤ wk ∧ wk ≤ dl ∧ dl ≤ pr ∧ pr ≤ 48 ∧ of ≤ 48) : xw_Mi l y_Tk_isServed (.code y_Tk_isServed b_Tk_isServed 6 (some .boolean) :: zG) { frames := 1, cells := 0, slots := 0, locals := 26 } D zCl (zT ca) [.ref (ad (14 + t)), .int (nI t), .ref (ad 13), .int (nI h)] (zW ca ad M) (fun _ => True) 0 0 (zW ca ad) (fun r M' => M' = M ∧ (sp_srv (M 13) t h pr wk dl of ∧ r = nI 1 ∨ ¬ sp_srv (M 13) t h pr wk dl of ∧ r = nI 0)) := by
  intro sz
  refine xw_met (cc := b_Tk_isServed) (maxL := 6) (ret := (some .boolean)) (by decide) rfl (Nat.le_of_ble_eq_true rfl) (fun p e s m args below meth c hr hlk hnm hsz hKs C => ?_)
  have hdp : h / pr ≤ h := Nat.div_le_self _ _
  have loop1 : ∀ (d : Nat) (i : Nat), h / pr - i = d → i ≤ h / pr → (∀ k, k < i → sp_cnt (M 13) t h (of + k * pr) dl = wk ∧ sp_cnt (M 13) t h (of + k * pr + dl) (pr - dl) = 0) → XW p l e { frames := 1, cells := 0, slots := 0, locals := 26 } s m args below meth c D zCl (va_A (zW ca ad M) sz) s.heap 6 (zW ca ad M) 0 0 (MQ below (va_Qi (fun r M' => M' = M ∧ (sp_srv (M 13) t h pr wk dl of ∧ r = nI 1 ∨ ¬ sp_srv (M 13) t h pr wk dl of ∧ r = nI 0)) (xw_B D zCl (zT ca) (va_A (zW ca ad M) sz) (zW ca ad)) (va_A (zW ca ad M) sz)) args s 0 0 (va_A (zW ca ad M) sz)) 3 [(0, .ref (ad (14 + t))), (1, .int (nI t)), (2, .ref (ad 13)), (3, .int (nI h)), (4, .int (nI i))] [] := by
    intro d
    induction d using Nat.strongRecOn with
    | _ d ih =>
      intro i hd hi hall
      refine xw_iload C 4 d_Tk_isServed_3 rfl (pc' := 5) rfl ?_
      refine xw_iload_n C 3 d_Tk_isServed_5 rfl rfl (pc' := 6) rfl ?_
      refine xw_aload_n C 0 d_Tk_isServed_6 rfl rfl (pc' := 7) rfl ?_
      refine xw_get C u_Tk (14 + t) (zr_Tk (t := t) (by omega)) rfl 0 (by decide) k_90 rfl rfl d_Tk_isServed_7 (pc' := 10) rfl ?_
      refine xw_topi (y := nI pr) hpr ?_
      refine xw_idiv C d_Tk_isServed_10 (nI_ne0 (by omega) (by omega)) (pc' := 11) rfl ?_
      refine xw_topi (y := nI (h / pr)) (pk_div (by omega) (by omega) (by omega)) ?_
      have hm10 : h / pr ≤ h := Nat.div_le_self _ _
      refine xw_icmp_ge C (tgt := 80) d_Tk_isServed_11 (by decide) (pc' := 14) rfl (fun h11 => ?_) (fun h11 => ?_)
      ·
        replace h11 : (h / pr) ≤ i := (nI_leI (by omega) (by omega)).mp h11
        refine xw_iconst C (v := nI 1) d_Tk_isServed_80 (by decide) (pc' := 81) rfl ?_
        refine xw_zret C hr hlk xp_n1 (F := zW ca ad) M rfl ?_ d_Tk_isServed_81
        exact ⟨rfl, Or.inl ⟨fun k hk => hall k (by omega), rfl⟩⟩
      ·
        replace h11 : ¬ ((h / pr) ≤ i) := fun h9 => h11 ((nI_leI (by omega) (by omega)).mpr h9)
        refine xw_aload_n C 0 d_Tk_isServed_14 rfl rfl (pc' := 15) rfl ?_
        refine xw_get C u_Tk (14 + t) (zr_Tk (t := t) (by omega)) rfl 3 (by decide) k_99 rfl rfl d_Tk_isServed_15 (pc' := 18) rfl ?_
        refine xw_topi (y := nI of) hof ?_
        refine xw_iload C 4 d_Tk_isServed_18 rfl (pc' := 20) rfl ?_
        refine xw_aload_n C 0 d_Tk_isServed_20 rfl rfl (pc' := 21) rfl ?_
        refine xw_get C u_Tk (14 + t) (zr_Tk (t := t) (by omega)) rfl 0 (by decide) k_90 rfl rfl d_Tk_isServed_21 (pc' := 24) rfl ?_
        refine xw_topi (y := nI pr) hpr ?_
        have hb1 : i * pr ≤ h := Nat.le_trans (Nat.mul_le_mul_right pr (by omega : i ≤ h / pr)) (Nat.div_mul_le_self h pr)
        refine xw_imul C d_Tk_isServed_24 (pc' := 25) rfl ?_
        refine xw_topi (y := nI (i * pr)) (pk_mul _ _) ?_
        refine xw_iadd C d_Tk_isServed_25 (pc' := 26) rfl ?_
        refine xw_topi (y := nI (of + (i * pr))) (nI_add _ _) ?_
        refine xw_istore C d_Tk_isServed_26 (by decide) rfl (pc' := 28) rfl ?_
        refine xw_iload_n C 2 d_Tk_isServed_28 rfl rfl (pc' := 29) rfl ?_
        refine xw_iload C 0 d_Tk_isServed_29 rfl (pc' := 31) rfl ?_
        refine xw_aload_n C 1 d_Tk_isServed_31 rfl rfl (pc' := 32) rfl ?_
        refine xw_get C u_Tk (14 + t) (zr_Tk (t := t) (by omega)) rfl 2 (by decide) k_98 rfl rfl d_Tk_isServed_32 (pc' := 35) rfl ?_
        refine xw_topi (y := nI dl) hdl ?_
        refine xw_aload_n C 3 d_Tk_isServed_35 rfl rfl (pc' := 36) rfl ?_
        refine xw_iload_n C 4 d_Tk_isServed_36 rfl rfl (pc' := 37) rfl ?_
        refine xw_callSi C (c_Tk_ticksOf l D ca ad M t h (of + (i * pr)) dl (by omega) (by omega) (by omega) (by omega)) ⟨zg_B C 5 k_478 k_26 k_480 q_Tk_ticksOf ⟨by decide, by decide⟩, C.2.2.2.2.1 _ k_479⟩ (fun _ _ _ _ h => h) (fun _ _ _ _ _ _ _ => trivial) rfl rfl (Nat.le_of_ble_eq_true rfl) d_Tk_isServed_37 ⟨by decide, by decide⟩ (pc' := 40) rfl (fun r51 M52 hp53 => ?_)
        obtain ⟨hme, hre⟩ := hp53
        rw [hme, hre]
        clear hme hre
        refine xw_aload_n C 1 d_Tk_isServed_40 rfl rfl (pc' := 41) rfl ?_
        refine xw_get C u_Tk (14 + t) (zr_Tk (t := t) (by omega)) rfl 1 (by decide) k_94 rfl rfl d_Tk_isServed_41 (pc' := 44) rfl ?_
        refine xw_topi (y := nI wk) hwk ?_
        have hc1 := sp_cnt_le (M 13) t h (of + i * pr) dl
        refine xw_icmp_ne C (tgt := 72) d_Tk_isServed_44 (by decide) (pc' := 47) rfl (fun h44 => ?_) (fun h44 => ?_)
        ·
          replace h44 : ¬ ((sp_cnt (M 13) t h (of + (i * pr)) dl) = wk) := fun h9 => h44 ((nI_eq (by omega) (by omega)).mpr h9)
          refine xw_iconst C (v := nI 0) d_Tk_isServed_72 (by decide) (pc' := 73) rfl ?_
          refine xw_zret C hr hlk xp_n0 (F := zW ca ad) M rfl ?_ d_Tk_isServed_73
          exact ⟨rfl, Or.inr ⟨fun h9 => absurd (h9 i (by omega)) (fun h9 => by first | exact h44 h9.1 | exact h69 h9.2), rfl⟩⟩
        ·
          replace h44 : (sp_cnt (M 13) t h (of + (i * pr)) dl) = wk := (nI_eq (by omega) (by omega)).mp h44
          refine xw_iload_n C 2 d_Tk_isServed_47 rfl rfl (pc' := 48) rfl ?_
          refine xw_iload C 0 d_Tk_isServed_48 rfl (pc' := 50) rfl ?_
          refine xw_aload_n C 1 d_Tk_isServed_50 rfl rfl (pc' := 51) rfl ?_
          refine xw_get C u_Tk (14 + t) (zr_Tk (t := t) (by omega)) rfl 2 (by decide) k_98 rfl rfl d_Tk_isServed_51 (pc' := 54) rfl ?_
          refine xw_topi (y := nI dl) hdl ?_
          refine xw_iadd C d_Tk_isServed_54 (pc' := 55) rfl ?_
          refine xw_topi (y := nI ((of + (i * pr)) + dl)) (nI_add _ _) ?_
          refine xw_aload_n C 1 d_Tk_isServed_55 rfl rfl (pc' := 56) rfl ?_
          refine xw_get C u_Tk (14 + t) (zr_Tk (t := t) (by omega)) rfl 0 (by decide) k_90 rfl rfl d_Tk_isServed_56 (pc' := 59) rfl ?_
          refine xw_topi (y := nI pr) hpr ?_
          refine xw_aload_n C 1 d_Tk_isServed_59 rfl rfl (pc' := 60) rfl ?_
          refine xw_get C u_Tk (14 + t) (zr_Tk (t := t) (by omega)) rfl 2 (by decide) k_98 rfl rfl d_Tk_isServed_60 (pc' := 63) rfl ?_
          refine xw_topi (y := nI dl) hdl ?_
          refine xw_isub C d_Tk_isServed_63 (pc' := 64) rfl ?_
          refine xw_topi (y := nI (pr - dl)) (pk_sub (by omega)) ?_
          refine xw_aload_n C 3 d_Tk_isServed_64 rfl rfl (pc' := 65) rfl ?_
          refine xw_iload_n C 4 d_Tk_isServed_65 rfl rfl (pc' := 66) rfl ?_
          refine xw_callSi C (c_Tk_ticksOf l D ca ad M t h ((of + (i * pr)) + dl) (pr - dl) (by omega) (by omega) (by omega) (by omega)) ⟨zg_B C 5 k_478 k_26 k_480 q_Tk_ticksOf ⟨by decide, by decide⟩, C.2.2.2.2.1 _ k_479⟩ (fun _ _ _ _ h => h) (fun _ _ _ _ _ _ _ => trivial) rfl rfl (Nat.le_of_ble_eq_true rfl) d_Tk_isServed_66 ⟨by decide, by decide⟩ (pc' := 69) rfl (fun r54 M55 hp56 => ?_)
          obtain ⟨hme, hre⟩ := hp56
          rw [hme, hre]
          clear hme hre
          have hc2 := sp_cnt_le (M 13) t h (of + i * pr + dl) (pr - dl)
          refine xw_if_eq C (tgt := 74) d_Tk_isServed_69 (by decide) (pc' := 72) rfl (fun h69 => ?_) (fun h69 => ?_)
          ·
            replace h69 : (sp_cnt (M 13) t h ((of + (i * pr)) + dl) (pr - dl)) = 0 := (xp_eq0 (by omega)).mp h69
            refine xw_iinc C 5 (v := nI (i + 1)) d_Tk_isServed_74 rfl (xp_inc1 _) (by decide) rfl (pc' := 77) rfl ?_
            refine xw_goto C (tgt := 3) d_Tk_isServed_77 (by decide) ?_
            refine xw_lv [2, 3, 4, 5, 0] rfl ?_
            exact ih (h / pr - (i + 1)) (by omega) (i + 1) rfl (by omega) (fun k hk => by
              rcases Nat.lt_or_ge k i with c9 | c9
              · exact hall k c9
              · rw [show k = i by omega]; exact ⟨h44, h69⟩)
          ·
            replace h69 : ¬ ((sp_cnt (M 13) t h ((of + (i * pr)) + dl) (pr - dl)) = 0) := fun h9 => h69 ((xp_eq0 (by omega)).mpr h9)
            refine xw_iconst C (v := nI 0) d_Tk_isServed_72 (by decide) (pc' := 73) rfl ?_
            refine xw_zret C hr hlk xp_n0 (F := zW ca ad) M rfl ?_ d_Tk_isServed_73
            exact ⟨rfl, Or.inr ⟨fun h9 => absurd (h9 i (by omega)) (fun h9 => by first | exact h44 h9.1 | exact h69 h9.2), rfl⟩⟩
  refine xw_lvE (lv' := [(0, .ref (ad (14 + t))), (1, .int (nI t)), (2, .ref (ad 13)), (3, .int (nI h))]) rfl ?_
  refine xw_iconst C (v := nI 0) d_Tk_isServed_0 (by decide) (pc' := 1) rfl ?_
  refine xw_istore C d_Tk_isServed_1 (by decide) rfl (pc' := 3) rfl ?_
  refine xw_lv [1, 2, 3, 4, 0] rfl ?_
  exact loop1 (h / pr) 0 rfl (Nat.zero_le _) (fun k hk => by omega)
end
section
def xs_mx (f : Nat → Nat) : Nat → Nat
  | 0 => 0
  | n + 1 => if xs_mx f n < f n then f n else xs_mx f n
theorem xs_mx_le {f : Nat → Nat} {n b : Nat} (h : ∀ j, j < n → f j ≤ b) : xs_mx f n ≤ b := by
  induction n with
  | zero => exact Nat.zero_le _
  | succ n ih =>
    have q := ih (fun j hj => h j (by omega))
    show (if xs_mx f n < f n then f n else xs_mx f n) ≤ b
    by_cases c : xs_mx f n < f n
    · rw [if_pos c]; exact h n (by omega)
    · rw [if_neg c]; exact q
theorem xs_mx_nI {f : Nat → Nat} {i : Nat} (h1 : xs_mx f i < 2 ^ 31) (h2 : f i < 2 ^ 31) : (if nI (xs_mx f i) < nI (f i) then nI (f i) else nI (xs_mx f i)) = nI (xs_mx f (i + 1)) := by
  show _ = nI (if xs_mx f i < f i then f i else xs_mx f i)
  by_cases c : xs_mx f i < f i
  · rw [if_pos c, if_pos ((nI_ltI h1 h2).mpr c)]
  · rw [if_neg c, if_neg (fun q => c ((nI_ltI h1 h2).mp q))]
def zRel (M : Nat → Nat → Int32) (of per : Nat → Nat) (tm : Nat) : Nat → Nat → Nat → Int32
  | 0 => M
  | i + 1 => if sp_rel (of i) (per i) tm then zJob (zRel M of per tm i) i (M (14 + i) 4) (nI tm) else zRel M of per tm i
theorem zJob_out {M : Nat → Nat → Int32} {t : Nat} {fp tm : Int32} {a b : Nat} (h1 : a ≠ 20 + t) (h2 : a ≠ 26 + t) : zJob M t fp tm a b = M a b := by
  unfold zJob
  rw [zst_ap, if_neg (fun h => h1 h.1), zst_ap, if_neg (fun h => h1 h.1), zst_ap, if_neg (fun h => h1 h.1), zst_ap, if_neg (fun h => h1 h.1), zfl_ap, if_neg (fun h => h2 h.1)]
theorem zRel_out {M : Nat → Nat → Int32} {of per : Nat → Nat} {tm i a b : Nat} (hi : i ≤ 6) (h : a < 20 ∨ 32 ≤ a) : zRel M of per tm i a b = M a b := by
  induction i with
  | zero => rfl
  | succ i ih =>
    show (if sp_rel (of i) (per i) tm then zJob (zRel M of per tm i) i (M (14 + i) 4) (nI tm) else zRel M of per tm i) a b = M a b
    by_cases c : sp_rel (of i) (per i) tm
    · rw [if_pos c, zJob_out (by omega) (by omega)]; exact ih (by omega)
    · rw [if_neg c]; exact ih (by omega)
def zApp (M : Nat → Nat → Int32) (n : Nat) (p w d o : Int32) : Nat → Nat → Int32 := zst (zFor (zst (zst (zst (zst (zst M (14 + n) 0 p) (14 + n) 1 w) (14 + n) 2 d) (14 + n) 3 o) (14 + n) 4 (nI (8 * n))) n) 1 0 (nI (n + 1))

set_option maxHeartbeats 4000000 in
set_option maxRecDepth 100000 in
/-- greatestOffset() -/
theorem c_Tl_greatestOffset (l : Launch) (D : va_G) (ca : Nat → ClassId) (ad : Nat → Nat) (M : Nat → Nat → Int32) (n : Nat) (per wk dl of : Nat → Nat) (hT : tkOK M n per wk dl of) : xw_Mi l y_Tl_greatestOffset (.code y_Tl_greatestOffset b_Tl_greatestOffset 3 (some .int) :: zG) { frames := 1, cells := 0, slots := 0, locals := 21 } D zCl (zT ca) [.ref (ad 1)] (zW ca ad M) (fun _ => True) 0 0 (zW ca ad) (fun r M' => M' = M ∧ r = nI (xs_mx of n)) := by
  intro sz
  refine xw_met (cc := b_Tl_greatestOffset) (maxL := 3) (ret := (some .int)) (by decide) rfl (Nat.le_of_ble_eq_true rfl) (fun p e s m args below meth c hr hlk hnm hsz hKs C => ?_)
  have hn6 := hT.1
  have loop1 : ∀ (d : Nat) (i g : Nat), n - i = d → i ≤ n → g = xs_mx of i → XW p l e { frames := 1, cells := 0, slots := 0, locals := 21 } s m args below meth c D zCl (va_A (zW ca ad M) sz) s.heap 3 (zW ca ad M) 0 0 (MQ below (va_Qi (fun r M' => M' = M ∧ r = nI (xs_mx of n)) (xw_B D zCl (zT ca) (va_A (zW ca ad M) sz) (zW ca ad)) (va_A (zW ca ad M) sz)) args s 0 0 (va_A (zW ca ad M) sz)) 4 [(0, .ref (ad 1)), (1, .int (nI g)), (2, .int (nI i))] [] := by
    intro d
    induction d using Nat.strongRecOn with
    | _ d ih =>
      intro i g hd hi hg
      refine xw_iload_n C 2 d_Tl_greatestOffset_4 rfl rfl (pc' := 5) rfl ?_
      refine xw_aload_n C 0 d_Tl_greatestOffset_5 rfl rfl (pc' := 6) rfl ?_
      refine xw_get C u_Tl 1 zr_1 rfl 1 (by decide) k_126 rfl rfl d_Tl_greatestOffset_6 (pc' := 9) rfl ?_
      refine xw_topi (y := nI n) hT.2.1 ?_
      refine xw_icmp_ge C (tgt := 32) d_Tl_greatestOffset_9 (by decide) (pc' := 12) rfl (fun h9 => ?_) (fun h9 => ?_)
      ·
        replace h9 : n ≤ i := (nI_leI (by omega) (by omega)).mp h9
        refine xw_iload_n C 1 d_Tl_greatestOffset_32 rfl rfl (pc' := 33) rfl ?_
        refine xw_iret C hr hlk (F := zW ca ad) M rfl ?_ d_Tl_greatestOffset_33
        exact ⟨rfl, by rw [hg, show i = n by omega]⟩
      ·
        replace h9 : ¬ (n ≤ i) := fun hneg => h9 ((nI_leI (by omega) (by omega)).mpr hneg)
        refine xw_iload_n C 1 d_Tl_greatestOffset_12 rfl rfl (pc' := 13) rfl ?_
        refine xw_aload_n C 0 d_Tl_greatestOffset_13 rfl rfl (pc' := 14) rfl ?_
        refine xw_get C u_Tl 1 zr_1 rfl 0 (by decide) k_123 rfl rfl d_Tl_greatestOffset_14 (pc' := 17) rfl ?_
        refine xw_iload_n C 2 d_Tl_greatestOffset_17 rfl rfl (pc' := 18) rfl ?_
        refine xw_aald C 2 1 zr_2 rfl i rfl (by omega) (by decide) rfl d_Tl_greatestOffset_18 (pc' := 19) rfl ?_
        refine xw_get C u_Tk (14 + i) (zr_Tk (t := i) (by omega)) rfl 3 (by decide) k_100 rfl rfl d_Tl_greatestOffset_19 (pc' := 22) rfl ?_
        refine xw_topi (y := nI (of i)) (hT.2.2 _ (by omega)).2.2.2.1 ?_
        have hgi := hT.2.2 i (by omega)
        have hg48 : xs_mx of i ≤ 48 := xs_mx_le (fun j hj => by have := hT.2.2 j (by omega); omega)
        refine xw_callSi C (c_Ma_max l D ca ad M (nI g) (nI (of i))) ⟨zg_B C 2 k_400 k_39 k_402 q_Ma_max ⟨by decide, by decide⟩, C.2.2.2.2.1 _ k_401⟩ (fun _ _ _ _ h => h) (fun _ _ _ _ _ _ _ => trivial) rfl rfl (Nat.le_of_ble_eq_true rfl) d_Tl_greatestOffset_22 ⟨by decide, by decide⟩ (pc' := 25) rfl (fun r51 M52 hp53 => ?_)
        obtain ⟨hme, hre⟩ := hp53
        rw [hme, hre]
        clear hme hre
        refine xw_topi (y := nI (xs_mx of (i + 1))) (by rw [hg]; exact xs_mx_nI (by omega) (by omega)) ?_
        refine xw_istore_n C d_Tl_greatestOffset_25 rfl (by decide) rfl (pc' := 26) rfl ?_
        refine xw_iinc C 2 (v := nI (i + 1)) d_Tl_greatestOffset_26 rfl (xp_inc1 _) (by decide) rfl (pc' := 29) rfl ?_
        refine xw_goto C (tgt := 4) d_Tl_greatestOffset_29 (by decide) ?_
        refine xw_lv [2, 1, 0] rfl ?_
        exact ih (n - (i + 1)) (by omega) (i + 1) (xs_mx of (i + 1)) rfl (by omega) rfl
  refine xw_lvE (lv' := [(0, .ref (ad 1))]) rfl ?_
  refine xw_iconst C (v := nI 0) d_Tl_greatestOffset_0 (by decide) (pc' := 1) rfl ?_
  refine xw_istore_n C d_Tl_greatestOffset_1 rfl (by decide) rfl (pc' := 2) rfl ?_
  refine xw_iconst C (v := nI 0) d_Tl_greatestOffset_2 (by decide) (pc' := 3) rfl ?_
  refine xw_istore_n C d_Tl_greatestOffset_3 rfl (by decide) rfl (pc' := 4) rfl ?_
  refine xw_lv [2, 1, 0] rfl ?_
  exact loop1 n 0 0 rfl (by omega) rfl

set_option maxHeartbeats 4000000 in
set_option maxRecDepth 100000 in
/-- workInRound(h) -/
theorem c_Tl_workInRound (l : Launch) (D : va_G) (ca : Nat → ClassId) (ad : Nat → Nat) (M : Nat → Nat → Int32) (n : Nat) (per wk dl of : Nat → Nat) (h : Nat) (hT : tkOK M n per wk dl of) (hh : h < 2 ^ 31) : xw_Mi l y_Tl_workInRound (.code y_Tl_workInRound b_Tl_workInRound 4 (some .int) :: zG) { frames := 0, cells := 0, slots := 0, locals := 0 } D zCl (zT ca) [.ref (ad 1), .int (nI h)] (zW ca ad M) (fun _ => True) 0 0 (zW ca ad) (fun r M' => M' = M ∧ r = nI (xs_sm (fun t => wk t * (h / per t)) n)) := by
  intro sz
  refine xw_met (cc := b_Tl_workInRound) (maxL := 4) (ret := (some .int)) (by decide) rfl (Nat.le_of_ble_eq_true rfl) (fun p e s m args below meth c hr hlk hnm hsz hKs C => ?_)
  have hn6 := hT.1
  have loop1 : ∀ (d : Nat) (i g : Nat), n - i = d → i ≤ n → g = xs_sm (fun t => wk t * (h / per t)) i → XW p l e { frames := 0, cells := 0, slots := 0, locals := 0 } s m args below meth c D zCl (va_A (zW ca ad M) sz) s.heap 4 (zW ca ad M) 0 0 (MQ below (va_Qi (fun r M' => M' = M ∧ r = nI (xs_sm (fun t => wk t * (h / per t)) n)) (xw_B D zCl (zT ca) (va_A (zW ca ad M) sz) (zW ca ad)) (va_A (zW ca ad M) sz)) args s 0 0 (va_A (zW ca ad M) sz)) 4 [(0, .ref (ad 1)), (1, .int (nI h)), (2, .int (nI g)), (3, .int (nI i))] [] := by
    intro d
    induction d using Nat.strongRecOn with
    | _ d ih =>
      intro i g hd hi hg
      refine xw_iload_n C 3 d_Tl_workInRound_4 rfl rfl (pc' := 5) rfl ?_
      refine xw_aload_n C 0 d_Tl_workInRound_5 rfl rfl (pc' := 6) rfl ?_
      refine xw_get C u_Tl 1 zr_1 rfl 1 (by decide) k_126 rfl rfl d_Tl_workInRound_6 (pc' := 9) rfl ?_
      refine xw_topi (y := nI n) hT.2.1 ?_
      refine xw_icmp_ge C (tgt := 42) d_Tl_workInRound_9 (by decide) (pc' := 12) rfl (fun h9 => ?_) (fun h9 => ?_)
      ·
        replace h9 : n ≤ i := (nI_leI (by omega) (by omega)).mp h9
        refine xw_iload_n C 2 d_Tl_workInRound_42 rfl rfl (pc' := 43) rfl ?_
        refine xw_iret C hr hlk (F := zW ca ad) M rfl ?_ d_Tl_workInRound_43
        exact ⟨rfl, by rw [hg, show i = n by omega]⟩
      ·
        replace h9 : ¬ (n ≤ i) := fun hneg => h9 ((nI_leI (by omega) (by omega)).mpr hneg)
        refine xw_iload_n C 2 d_Tl_workInRound_12 rfl rfl (pc' := 13) rfl ?_
        refine xw_aload_n C 0 d_Tl_workInRound_13 rfl rfl (pc' := 14) rfl ?_
        refine xw_get C u_Tl 1 zr_1 rfl 0 (by decide) k_123 rfl rfl d_Tl_workInRound_14 (pc' := 17) rfl ?_
        refine xw_iload_n C 3 d_Tl_workInRound_17 rfl rfl (pc' := 18) rfl ?_
        refine xw_aald C 2 1 zr_2 rfl i rfl (by omega) (by decide) rfl d_Tl_workInRound_18 (pc' := 19) rfl ?_
        refine xw_get C u_Tk (14 + i) (zr_Tk (t := i) (by omega)) rfl 1 (by decide) k_92 rfl rfl d_Tl_workInRound_19 (pc' := 22) rfl ?_
        refine xw_topi (y := nI (wk i)) (hT.2.2 _ (by omega)).2.1 ?_
        refine xw_iload_n C 1 d_Tl_workInRound_22 rfl rfl (pc' := 23) rfl ?_
        refine xw_aload_n C 0 d_Tl_workInRound_23 rfl rfl (pc' := 24) rfl ?_
        refine xw_get C u_Tl 1 zr_1 rfl 0 (by decide) k_123 rfl rfl d_Tl_workInRound_24 (pc' := 27) rfl ?_
        refine xw_iload_n C 3 d_Tl_workInRound_27 rfl rfl (pc' := 28) rfl ?_
        refine xw_aald C 2 1 zr_2 rfl i rfl (by omega) (by decide) rfl d_Tl_workInRound_28 (pc' := 29) rfl ?_
        refine xw_get C u_Tk (14 + i) (zr_Tk (t := i) (by omega)) rfl 0 (by decide) k_91 rfl rfl d_Tl_workInRound_29 (pc' := 32) rfl ?_
        refine xw_topi (y := nI (per i)) (hT.2.2 _ (by omega)).1 ?_
        have hgi := hT.2.2 i (by omega)
        refine xw_idiv C d_Tl_workInRound_32 (nI_ne0 (by omega) (by omega)) (pc' := 33) rfl ?_
        refine xw_topi (y := nI (h / (per i))) (pk_div (by omega) (by omega) (by omega)) ?_
        have hm32 : h / (per i) ≤ h := Nat.div_le_self _ _
        refine xw_imul C d_Tl_workInRound_33 (pc' := 34) rfl ?_
        refine xw_topi (y := nI ((wk i) * (h / (per i)))) (pk_mul _ _) ?_
        refine xw_iadd C d_Tl_workInRound_34 (pc' := 35) rfl ?_
        refine xw_topi (y := nI (g + ((wk i) * (h / (per i))))) (nI_add _ _) ?_
        refine xw_istore_n C d_Tl_workInRound_35 rfl (by decide) rfl (pc' := 36) rfl ?_
        refine xw_iinc C 3 (v := nI (i + 1)) d_Tl_workInRound_36 rfl (xp_inc1 _) (by decide) rfl (pc' := 39) rfl ?_
        refine xw_goto C (tgt := 4) d_Tl_workInRound_39 (by decide) ?_
        refine xw_lv [2, 3, 1, 0] rfl ?_
        exact ih (n - (i + 1)) (by omega) (i + 1) ((g + ((wk i) * (h / (per i))))) rfl (by omega) (by rw [hg]; rfl)
  refine xw_lvE (lv' := [(0, .ref (ad 1)), (1, .int (nI h))]) rfl ?_
  refine xw_iconst C (v := nI 0) d_Tl_workInRound_0 (by decide) (pc' := 1) rfl ?_
  refine xw_istore_n C d_Tl_workInRound_1 rfl (by decide) rfl (pc' := 2) rfl ?_
  refine xw_iconst C (v := nI 0) d_Tl_workInRound_2 (by decide) (pc' := 3) rfl ?_
  refine xw_istore_n C d_Tl_workInRound_3 rfl (by decide) rfl (pc' := 4) rfl ?_
  refine xw_lv [2, 3, 1, 0] rfl ?_
  exact loop1 n 0 0 rfl (by omega) rfl

set_option maxHeartbeats 4000000 in
set_option maxRecDepth 100000 in
/-- areServed -/
theorem c_Tl_areServed (l : Launch) (D : va_G) (ca : Nat → ClassId) (ad : Nat → Nat) (M : Nat → Nat → Int32) (n : Nat) (per wk dl of : Nat → Nat) (h : Nat) (hT : tkOK M n per wk dl of) (hh1 : 1 ≤ h) (hh : h ≤ 240) : xw_Mi l y_Tl_areServed (.code y_Tl_areServed b_Tl_areServed 4 (some .boolean) :: zG) { frames := 2, cells := 0, slots := 0, locals := 51 } D zCl (zT ca) [.ref (ad 1), .ref (ad 13), .int (nI h)] (zW ca ad M) (fun _ => True) 0 0 (zW ca ad) (fun r M' => M' = M ∧ ((∀ t, t < n → sp_srv (M 13) t h (per t) (wk t) (dl t) (of t)) ∧ r = nI 1 ∨ ¬ (∀ t, t < n → sp_srv (M 13) t h (per t) (wk t) (dl t) (of t)) ∧ r = nI 0)) := by
  intro sz
  refine xw_met (cc := b_Tl_areServed) (maxL := 4) (ret := (some .boolean)) (by decide) rfl (Nat.le_of_ble_eq_true rfl) (fun p e s m args below meth c hr hlk hnm hsz hKs C => ?_)
  have hn6 := hT.1
  have loop1 : ∀ (d : Nat) (i : Nat), n - i = d → i ≤ n → (∀ t, t < i → sp_srv (M 13) t h (per t) (wk t) (dl t) (of t)) → XW p l e { frames := 2, cells := 0, slots := 0, locals := 51 } s m args below meth c D zCl (va_A (zW ca ad M) sz) s.heap 4 (zW ca ad M) 0 0 (MQ below (va_Qi (fun r M' => M' = M ∧ ((∀ t, t < n → sp_srv (M 13) t h (per t) (wk t) (dl t) (of t)) ∧ r = nI 1 ∨ ¬ (∀ t, t < n → sp_srv (M 13) t h (per t) (wk t) (dl t) (of t)) ∧ r = nI 0)) (xw_B D zCl (zT ca) (va_A (zW ca ad M) sz) (zW ca ad)) (va_A (zW ca ad M) sz)) args s 0 0 (va_A (zW ca ad M) sz)) 2 [(0, .ref (ad 1)), (1, .ref (ad 13)), (2, .int (nI h)), (3, .int (nI i))] [] := by
    intro d
    induction d using Nat.strongRecOn with
    | _ d ih =>
      intro i hd hi hall
      refine xw_iload_n C 3 d_Tl_areServed_2 rfl rfl (pc' := 3) rfl ?_
      refine xw_aload_n C 0 d_Tl_areServed_3 rfl rfl (pc' := 4) rfl ?_
      refine xw_get C u_Tl 1 zr_1 rfl 1 (by decide) k_126 rfl rfl d_Tl_areServed_4 (pc' := 7) rfl ?_
      refine xw_topi (y := nI n) hT.2.1 ?_
      refine xw_icmp_ge C (tgt := 33) d_Tl_areServed_7 (by decide) (pc' := 10) rfl (fun h7 => ?_) (fun h7 => ?_)
      ·
        replace h7 : n ≤ i := (nI_leI (by omega) (by omega)).mp h7
        refine xw_iconst C (v := nI 1) d_Tl_areServed_33 (by decide) (pc' := 34) rfl ?_
        refine xw_zret C hr hlk xp_n1 (F := zW ca ad) M rfl ?_ d_Tl_areServed_34
        exact ⟨rfl, Or.inl ⟨fun t ht => hall t (by omega), rfl⟩⟩
      ·
        replace h7 : ¬ (n ≤ i) := fun hneg => h7 ((nI_leI (by omega) (by omega)).mpr hneg)
        refine xw_aload_n C 0 d_Tl_areServed_10 rfl rfl (pc' := 11) rfl ?_
        refine xw_get C u_Tl 1 zr_1 rfl 0 (by decide) k_123 rfl rfl d_Tl_areServed_11 (pc' := 14) rfl ?_
        refine xw_iload_n C 3 d_Tl_areServed_14 rfl rfl (pc' := 15) rfl ?_
        refine xw_aald C 2 1 zr_2 rfl i rfl (by omega) (by decide) rfl d_Tl_areServed_15 (pc' := 16) rfl ?_
        refine xw_iload_n C 3 d_Tl_areServed_16 rfl rfl (pc' := 17) rfl ?_
        refine xw_aload_n C 1 d_Tl_areServed_17 rfl rfl (pc' := 18) rfl ?_
        refine xw_iload_n C 2 d_Tl_areServed_18 rfl rfl (pc' := 19) rfl ?_
        refine xw_callVi C (c_Tk_isServed l D ca ad M i h (per i) (wk i) (dl i) (of i) (by omega) (by omega) (by omega) (hT.2.2 i (by omega)).1 (hT.2.2 i (by omega)).2.1 (hT.2.2 i (by omega)).2.2.1 (hT.2.2 i (by omega)).2.2.2.1 (by have := hT.2.2 i (by omega); omega)) ⟨zg_B C 3 k_474 k_26 k_477 q_Tk_isServed ⟨by decide, by decide⟩, C.2.2.2.2.1 _ k_475, C.2.2.2.2.1 _ k_476⟩ (14 + i) (zr_Tk (t := i) (by omega)) rfl rfl (fun _ _ _ _ h => h) (fun _ _ _ _ _ _ _ => trivial) rfl rfl (Nat.le_of_ble_eq_true rfl) d_Tl_areServed_19 ⟨by decide, by decide⟩ (pc' := 22) rfl (fun r51 M52 hp53 => ?_)
        obtain ⟨hme, hp53⟩ := hp53
        rw [hme]
        clear hme
        rcases hp53 with ⟨hsv, rfl⟩ | ⟨hsv, rfl⟩
        ·
          refine xw_if_ne C (tgt := 27) d_Tl_areServed_22 (by decide) (pc' := 25) rfl (fun h22 => ?_) (fun h22 => ?_)
          ·
            replace h22 : ¬ (1 = 0) := fun hneg => h22 ((xp_eq0 (by omega)).mpr hneg)
            refine xw_iinc C 3 (v := nI (i + 1)) d_Tl_areServed_27 rfl (xp_inc1 _) (by decide) rfl (pc' := 30) rfl ?_
            refine xw_goto C (tgt := 2) d_Tl_areServed_30 (by decide) ?_
            refine xw_lv [1, 2, 3, 0] rfl ?_
            exact ih (n - (i + 1)) (by omega) (i + 1) rfl (by omega) (fun t ht => by
              rcases Nat.lt_or_ge t i with c9 | c9
              · exact hall t c9
              · rw [show t = i by omega]; exact hsv)
          ·
            replace h22 : 1 = 0 := (xp_eq0 (by omega)).mp h22
            omega
        ·
          refine xw_if_ne C (tgt := 27) d_Tl_areServed_22 (by decide) (pc' := 25) rfl (fun h22 => ?_) (fun h22 => ?_)
          ·
            replace h22 : ¬ (0 = 0) := fun hneg => h22 ((xp_eq0 (by omega)).mpr hneg)
            omega
          ·
            replace h22 : 0 = 0 := (xp_eq0 (by omega)).mp h22
            refine xw_iconst C (v := nI 0) d_Tl_areServed_25 (by decide) (pc' := 26) rfl ?_
            refine xw_zret C hr hlk xp_n0 (F := zW ca ad) M rfl ?_ d_Tl_areServed_26
            exact ⟨rfl, Or.inr ⟨fun h9 => hsv (h9 i (by omega)), rfl⟩⟩
  refine xw_lvE (lv' := [(0, .ref (ad 1)), (1, .ref (ad 13)), (2, .int (nI h))]) rfl ?_
  refine xw_iconst C (v := nI 0) d_Tl_areServed_0 (by decide) (pc' := 1) rfl ?_
  refine xw_istore_n C d_Tl_areServed_1 rfl (by decide) rfl (pc' := 2) rfl ?_
  refine xw_lv [1, 2, 3, 0] rfl ?_
  exact loop1 n 0 rfl (by omega) (fun t ht => by omega)

set_option maxHeartbeats 4000000 in
set_option maxRecDepth 100000 in
/-- releaseJobs(tm) -/
theorem c_Tl_releaseJobs (l : Launch) (D : va_G) (ca : Nat → ClassId) (ad : Nat → Nat) (M : Nat → Nat → Int32) (n : Nat) (per wk dl of : Nat → Nat) (tm : Nat) (hT : tkOK M n per wk dl of) (htm : tm < 2 ^ 31) : xw_Mv l y_Tl_releaseJobs (.code y_Tl_releaseJobs b_Tl_releaseJobs 3 none :: zG) { frames := 2, cells := 0, slots := 0, locals := 45 } D zCl (zT ca) [.ref (ad 1), .int (nI tm)] (zW ca ad M) (fun _ => True) 0 0 (zW ca ad) (fun M' => M' = zRel M of per tm n) := by
  intro sz
  refine xw_met (cc := b_Tl_releaseJobs) (maxL := 3) (ret := none) (by decide) rfl (Nat.le_of_ble_eq_true rfl) (fun p e s m args below meth c hr hlk hnm hsz hKs C => ?_)
  have hn6 := hT.1
  have loop1 : ∀ (d : Nat) (i : Nat) (M1 : Nat → Nat → Int32), n - i = d → i ≤ n → M1 = zRel M of per tm i → XW p l e { frames := 2, cells := 0, slots := 0, locals := 45 } s m args below meth c D zCl (va_A (zW ca ad M) sz) s.heap 3 (zW ca ad M1) 0 0 (MQ below (va_Qv (fun M' => M' = zRel M of per tm n) (xw_B D zCl (zT ca) (va_A (zW ca ad M) sz) (zW ca ad)) (va_A (zW ca ad M) sz)) args s 0 0 (va_A (zW ca ad M) sz)) 2 [(0, .ref (ad 1)), (1, .int (nI tm)), (2, .int (nI i))] [] := by
    intro d
    induction d using Nat.strongRecOn with
    | _ d ih =>
      intro i M1 hd hi hM1
      have hk1 : ∀ a b, (a < 20 ∨ 32 ≤ a) → M1 a b = M a b := fun a b h => by rw [hM1]; exact zRel_out (by omega) h
      have hT1 : tkOK M1 n per wk dl of := hT.keep (hk1 _ _ (by omega)) (fun t j ht => hk1 _ _ (by omega))
      refine xw_iload_n C 2 d_Tl_releaseJobs_2 rfl rfl (pc' := 3) rfl ?_
      refine xw_aload_n C 0 d_Tl_releaseJobs_3 rfl rfl (pc' := 4) rfl ?_
      refine xw_get C u_Tl 1 zr_1 rfl 1 (by decide) k_126 rfl rfl d_Tl_releaseJobs_4 (pc' := 7) rfl ?_
      refine xw_topi (y := nI n) ((hk1 _ _ (by omega)).trans hT.2.1) ?_
      refine xw_icmp_ge C (tgt := 51) d_Tl_releaseJobs_7 (by decide) (pc' := 10) rfl (fun h7 => ?_) (fun h7 => ?_)
      ·
        replace h7 : n ≤ i := (nI_leI (by omega) (by omega)).mp h7
        refine xw_vret C hr hlk (F := zW ca ad) M1 rfl ?_ d_Tl_releaseJobs_51
        rw [hM1, show i = n by omega]
      ·
        replace h7 : ¬ (n ≤ i) := fun hneg => h7 ((nI_leI (by omega) (by omega)).mpr hneg)
        refine xw_aload_n C 0 d_Tl_releaseJobs_10 rfl rfl (pc' := 11) rfl ?_
        refine xw_get C u_Tl 1 zr_1 rfl 0 (by decide) k_123 rfl rfl d_Tl_releaseJobs_11 (pc' := 14) rfl ?_
        refine xw_iload_n C 2 d_Tl_releaseJobs_14 rfl rfl (pc' := 15) rfl ?_
        refine xw_aald C 2 1 zr_2 rfl i rfl (by omega) (by decide) rfl d_Tl_releaseJobs_15 (pc' := 16) rfl ?_
        refine xw_iload_n C 1 d_Tl_releaseJobs_16 rfl rfl (pc' := 17) rfl ?_
        refine xw_callVi C (c_Tk_releasesAt l D ca ad M1 i tm (of i) (per i) (by omega) (by omega) (hT1.2.2 _ (by omega)).2.2.2.1 (by have := hT.2.2 i (by omega); omega) (hT1.2.2 _ (by omega)).1 (by have := hT.2.2 i (by omega); omega) (by have := hT.2.2 i (by omega); omega)) ⟨zg_B C 1 k_514 k_26 k_410 q_Tk_releasesAt ⟨by decide, by decide⟩, C.2.2.2.2.1 _ k_408, C.2.2.2.2.1 _ k_409⟩ (14 + i) (zr_Tk (t := i) (by omega)) rfl rfl (fun _ _ _ _ h => h) (fun _ _ _ _ _ _ _ => trivial) rfl rfl (Nat.le_of_ble_eq_true rfl) d_Tl_releaseJobs_17 ⟨by decide, by decide⟩ (pc' := 20) rfl (fun r51 M52 hp53 => ?_)
        obtain ⟨hme, hp53⟩ := hp53
        rw [hme]
        clear hme
        rcases hp53 with ⟨hrl, rfl⟩ | ⟨hrl, rfl⟩
        ·
          refine xw_if_eq C (tgt := 45) d_Tl_releaseJobs_20 (by decide) (pc' := 23) rfl (fun h20 => ?_) (fun h20 => ?_)
          ·
            replace h20 : 1 = 0 := (xp_eq0 (by omega)).mp h20
            omega
          ·
            replace h20 : ¬ (1 = 0) := fun hneg => h20 ((xp_eq0 (by omega)).mpr hneg)
            refine xw_aload_n C 0 d_Tl_releaseJobs_23 rfl rfl (pc' := 24) rfl ?_
            refine xw_get C u_Tl 1 zr_1 rfl 0 (by decide) k_123 rfl rfl d_Tl_releaseJobs_24 (pc' := 27) rfl ?_
            refine xw_iload_n C 2 d_Tl_releaseJobs_27 rfl rfl (pc' := 28) rfl ?_
            refine xw_aald C 2 1 zr_2 rfl i rfl (by omega) (by decide) rfl d_Tl_releaseJobs_28 (pc' := 29) rfl ?_
            refine xw_get C u_Tk (14 + i) (zr_Tk (t := i) (by omega)) rfl 5 (by decide) k_104 rfl rfl d_Tl_releaseJobs_29 (pc' := 32) rfl ?_
            refine xw_aload_n C 0 d_Tl_releaseJobs_32 rfl rfl (pc' := 33) rfl ?_
            refine xw_get C u_Tl 1 zr_1 rfl 0 (by decide) k_123 rfl rfl d_Tl_releaseJobs_33 (pc' := 36) rfl ?_
            refine xw_iload_n C 2 d_Tl_releaseJobs_36 rfl rfl (pc' := 37) rfl ?_
            refine xw_aald C 2 1 zr_2 rfl i rfl (by omega) (by decide) rfl d_Tl_releaseJobs_37 (pc' := 38) rfl ?_
            refine xw_get C u_Tk (14 + i) (zr_Tk (t := i) (by omega)) rfl 4 (by decide) k_101 rfl rfl d_Tl_releaseJobs_38 (pc' := 41) rfl ?_
            refine xw_topi (y := M (14 + i) 4) (hk1 _ _ (by omega)) ?_
            refine xw_iload_n C 1 d_Tl_releaseJobs_41 rfl rfl (pc' := 42) rfl ?_
            refine xw_callVv C (c_Jb_start l D ca ad M1 i (M (14 + i) 4) (nI tm) (by omega)) ⟨zg_B C 2 k_515 k_27 k_518 q_Jb_start ⟨by decide, by decide⟩, C.2.2.2.2.1 _ k_516, C.2.2.2.2.1 _ k_517⟩ (20 + i) (zr_Jb (t := i) (by omega)) rfl rfl (fun _ _ _ _ h => h) (fun _ _ _ _ _ _ _ => trivial) rfl rfl (Nat.le_of_ble_eq_true rfl) d_Tl_releaseJobs_42 ⟨by decide, by decide⟩ (pc' := 45) rfl (fun M55 hp56 => ?_)
            have hM55 := hp56
            refine xw_iinc C 2 (v := nI (i + 1)) d_Tl_releaseJobs_45 rfl (xp_inc1 _) (by decide) rfl (pc' := 48) rfl ?_
            refine xw_goto C (tgt := 2) d_Tl_releaseJobs_48 (by decide) ?_
            refine xw_lv [1, 2, 0] rfl ?_
            exact ih (n - (i + 1)) (by omega) (i + 1) M55 rfl (by omega) (by rw [hM55, hM1]; exact (if_pos hrl).symm)
        ·
          refine xw_if_eq C (tgt := 45) d_Tl_releaseJobs_20 (by decide) (pc' := 23) rfl (fun h20 => ?_) (fun h20 => ?_)
          ·
            replace h20 : 0 = 0 := (xp_eq0 (by omega)).mp h20
            refine xw_iinc C 2 (v := nI (i + 1)) d_Tl_releaseJobs_45 rfl (xp_inc1 _) (by decide) rfl (pc' := 48) rfl ?_
            refine xw_goto C (tgt := 2) d_Tl_releaseJobs_48 (by decide) ?_
            refine xw_lv [1, 2, 0] rfl ?_
            exact ih (n - (i + 1)) (by omega) (i + 1) M1 rfl (by omega) (by rw [hM1]; exact (if_neg hrl).symm)
          ·
            replace h20 : ¬ (0 = 0) := fun hneg => h20 ((xp_eq0 (by omega)).mpr hneg)
            omega
  refine xw_lvE (lv' := [(0, .ref (ad 1)), (1, .int (nI tm))]) rfl ?_
  refine xw_iconst C (v := nI 0) d_Tl_releaseJobs_0 (by decide) (pc' := 1) rfl ?_
  refine xw_istore_n C d_Tl_releaseJobs_1 rfl (by decide) rfl (pc' := 2) rfl ?_
  refine xw_lv [1, 2, 0] rfl ?_
  exact loop1 n 0 M rfl (by omega) rfl

set_option maxHeartbeats 4000000 in
set_option maxRecDepth 100000 in
/-- append -/
theorem c_Tl_append (l : Launch) (D : va_G) (ca : Nat → ClassId) (ad : Nat → Nat) (M : Nat → Nat → Int32) (n : Nat) (p0 w0 d0 o0 : Int32) (hn : n < 6) (hz : M 1 0 = nI n) : xw_Mi l y_Tl_append (.code y_Tl_append b_Tl_append 6 (some .int) :: zG) { frames := 2, cells := 0, slots := 0, locals := 43 } D zCl (zT ca) [.ref (ad 1), .int p0, .int w0, .int d0, .int o0] (zW ca ad M) (fun _ => True) 0 0 (zW ca ad) (fun r M' => M' = zApp M n p0 w0 d0 o0 ∧ r = nI n) := by
  intro sz
  refine xw_met (cc := b_Tl_append) (maxL := 6) (ret := (some .int)) (by decide) rfl (Nat.le_of_ble_eq_true rfl) (fun p e s m args below meth c hr hlk hnm hsz hKs C => ?_)
  refine xw_lvE (lv' := [(0, .ref (ad 1)), (1, .int p0), (2, .int w0), (3, .int d0), (4, .int o0)]) rfl ?_
  refine xw_aload_n C 0 d_Tl_append_0 rfl rfl (pc' := 1) rfl ?_
  refine xw_get C u_Tl 1 zr_1 rfl 0 (by decide) k_123 rfl rfl d_Tl_append_1 (pc' := 4) rfl ?_
  refine xw_aload_n C 0 d_Tl_append_4 rfl rfl (pc' := 5) rfl ?_
  refine xw_get C u_Tl 1 zr_1 rfl 1 (by decide) k_126 rfl rfl d_Tl_append_5 (pc' := 8) rfl ?_
  refine xw_topi (y := nI n) hz ?_
  refine xw_aald C 2 1 zr_2 rfl n rfl (by omega) (by decide) rfl d_Tl_append_8 (pc' := 9) rfl ?_
  refine xw_astore C d_Tl_append_9 (by decide) rfl (pc' := 11) rfl ?_
  refine xw_aload C 0 d_Tl_append_11 rfl (pc' := 13) rfl ?_
  refine xw_iload_n C 2 d_Tl_append_13 rfl rfl (pc' := 14) rfl ?_
  obtain ⟨M1, hM1⟩ : ∃ z, z = zst M (14 + n) 0 p0 := ⟨_, rfl⟩
  refine xw_put C u_Tk t_Tk t_Tk_ok n_Tk (14 + n) (zr_Tk (t := n) (by omega)) rfl 0 (by decide) k_91 rfl rfl (t_Tk_ok 0 (by decide)) rfl rfl (Nat.le_of_ble_eq_true rfl) (ws' := zW ca ad M1) (by rw [hM1]; exact zs_Tk_0 (t := n) (by omega) _) d_Tl_append_14 (pc' := 17) rfl ?_
  refine xw_aload C 0 d_Tl_append_17 rfl (pc' := 19) rfl ?_
  refine xw_iload_n C 3 d_Tl_append_19 rfl rfl (pc' := 20) rfl ?_
  obtain ⟨M2, hM2⟩ : ∃ z, z = zst M1 (14 + n) 1 w0 := ⟨_, rfl⟩
  refine xw_put C u_Tk t_Tk t_Tk_ok n_Tk (14 + n) (zr_Tk (t := n) (by omega)) rfl 1 (by decide) k_92 rfl rfl (t_Tk_ok 1 (by decide)) rfl rfl (Nat.le_of_ble_eq_true rfl) (ws' := zW ca ad M2) (by rw [hM2]; exact zs_Tk_1 (t := n) (by omega) _) d_Tl_append_20 (pc' := 23) rfl ?_
  refine xw_aload C 0 d_Tl_append_23 rfl (pc' := 25) rfl ?_
  refine xw_iload_n C 4 d_Tl_append_25 rfl rfl (pc' := 26) rfl ?_
  obtain ⟨M3, hM3⟩ : ∃ z, z = zst M2 (14 + n) 2 d0 := ⟨_, rfl⟩
  refine xw_put C u_Tk t_Tk t_Tk_ok n_Tk (14 + n) (zr_Tk (t := n) (by omega)) rfl 2 (by decide) k_96 rfl rfl (t_Tk_ok 2 (by decide)) rfl rfl (Nat.le_of_ble_eq_true rfl) (ws' := zW ca ad M3) (by rw [hM3]; exact zs_Tk_2 (t := n) (by omega) _) d_Tl_append_26 (pc' := 29) rfl ?_
  refine xw_aload C 0 d_Tl_append_29 rfl (pc' := 31) rfl ?_
  refine xw_iload C 5 d_Tl_append_31 rfl (pc' := 33) rfl ?_
  obtain ⟨M4, hM4⟩ : ∃ z, z = zst M3 (14 + n) 3 o0 := ⟨_, rfl⟩
  refine xw_put C u_Tk t_Tk t_Tk_ok n_Tk (14 + n) (zr_Tk (t := n) (by omega)) rfl 3 (by decide) k_100 rfl rfl (t_Tk_ok 3 (by decide)) rfl rfl (Nat.le_of_ble_eq_true rfl) (ws' := zW ca ad M4) (by rw [hM4]; exact zs_Tk_3 (t := n) (by omega) _) d_Tl_append_33 (pc' := 36) rfl ?_
  refine xw_aload C 0 d_Tl_append_36 rfl (pc' := 38) rfl ?_
  refine xw_bipush C (v := nI 8) d_Tl_append_38 (by decide) (pc' := 40) rfl ?_
  refine xw_aload_n C 1 d_Tl_append_40 rfl rfl (pc' := 41) rfl ?_
  have hz4 : M4 1 0 = nI n := by rw [hM4, hM3, hM2, hM1, zst_ap, if_neg (by omega), zst_ap, if_neg (by omega), zst_ap, if_neg (by omega), zst_ap, if_neg (by omega)]; exact hz
  refine xw_get C u_Tl 1 zr_1 rfl 1 (by decide) k_126 rfl rfl d_Tl_append_41 (pc' := 44) rfl ?_
  refine xw_topi (y := nI n) hz4 ?_
  refine xw_imul C d_Tl_append_44 (pc' := 45) rfl ?_
  refine xw_topi (y := nI (8 * n)) (pk_mul _ _) ?_
  obtain ⟨M5, hM5⟩ : ∃ z, z = zst M4 (14 + n) 4 (nI (8 * n)) := ⟨_, rfl⟩
  refine xw_put C u_Tk t_Tk t_Tk_ok n_Tk (14 + n) (zr_Tk (t := n) (by omega)) rfl 4 (by decide) k_101 rfl rfl (t_Tk_ok 4 (by decide)) rfl rfl (Nat.le_of_ble_eq_true rfl) (ws' := zW ca ad M5) (by rw [hM5]; exact zs_Tk_4 (t := n) (by omega) _) d_Tl_append_45 (pc' := 48) rfl ?_
  refine xw_aload C 0 d_Tl_append_48 rfl (pc' := 50) rfl ?_
  refine xw_callVv C (c_Tk_forgetRun l D ca ad M5 n (by omega)) ⟨zg_B C 0 k_359 k_26 k_362 q_Tk_forgetRun ⟨by decide, by decide⟩, C.2.2.2.2.1 _ k_360, C.2.2.2.2.1 _ k_361⟩ (14 + n) (zr_Tk (t := n) (by omega)) rfl rfl (fun _ _ _ _ h => h) (fun _ _ _ _ _ _ _ => trivial) rfl rfl (Nat.le_of_ble_eq_true rfl) d_Tl_append_50 ⟨by decide, by decide⟩ (pc' := 53) rfl (fun M7 hp8 => ?_)
  have hM7 := hp8
  refine xw_aload_n C 1 d_Tl_append_53 rfl rfl (pc' := 54) rfl ?_
  have hz6 : M7 1 0 = nI n := by rw [hM7, hM5]; unfold zFor; rw [zfl_ap, if_neg (by omega), zst_ap, if_neg (by omega), zst_ap, if_neg (by omega)]; exact hz4
  refine xw_dup C d_Tl_append_54 rfl (pc' := 55) rfl ?_
  refine xw_get C u_Tl 1 zr_1 rfl 1 (by decide) k_126 rfl rfl d_Tl_append_55 (pc' := 58) rfl ?_
  refine xw_topi (y := nI n) hz6 ?_
  refine xw_iconst C (v := nI 1) d_Tl_append_58 (by decide) (pc' := 59) rfl ?_
  refine xw_iadd C d_Tl_append_59 (pc' := 60) rfl ?_
  refine xw_topi (y := nI (n + 1)) (nI_add _ _) ?_
  obtain ⟨M9, hM9⟩ : ∃ z, z = zst M7 1 0 (nI (n + 1)) := ⟨_, rfl⟩
  refine xw_put C u_Tl t_Tl t_Tl_ok n_Tl 1 zr_1 rfl 1 (by decide) k_126 rfl rfl (t_Tl_ok 1 (by decide)) rfl rfl (Nat.le_of_ble_eq_true rfl) (ws' := zW ca ad M9) (by rw [hM9]; exact zs_1_0 _) d_Tl_append_60 (pc' := 63) rfl ?_
  refine xw_aload_n C 1 d_Tl_append_63 rfl rfl (pc' := 64) rfl ?_
  have hz9 : M9 1 0 = nI (n + 1) := by rw [hM9, zst_ap, if_pos ⟨rfl, rfl⟩]
  refine xw_get C u_Tl 1 zr_1 rfl 1 (by decide) k_126 rfl rfl d_Tl_append_64 (pc' := 67) rfl ?_
  refine xw_topi (y := nI (n + 1)) hz9 ?_
  refine xw_iconst C (v := nI 1) d_Tl_append_67 (by decide) (pc' := 68) rfl ?_
  refine xw_isub C d_Tl_append_68 (pc' := 69) rfl ?_
  refine xw_topi (y := nI ((n + 1) - 1)) (pk_sub (by omega)) ?_
  refine xw_iret C hr hlk (F := zW ca ad) M9 rfl ?_ d_Tl_append_69
  refine ⟨?_, rfl⟩
  rw [hM9, hM7, hM5, hM4, hM3, hM2, hM1]; rfl
end
section
/-- a tick's owner as a number -/
def oI (k : Option Nat) : Int32 := match k with
  | none => -1
  | some t => nI t
theorem oI_inj {a b : Option Nat} (ha : ∀ t, a = some t → t < 2 ^ 31) (hb : ∀ t, b = some t → t < 2 ^ 31) (h : oI a = oI b) : a = b := by
  rcases a with _ | a <;> rcases b with _ | b
  · rfl
  · exact absurd h.symm (xp_nem1 (hb b rfl))
  · exact absurd h (xp_nem1 (ha a rfl))
  · have := (nI_eq (ha a rfl) (hb b rfl)).mp h
    rw [this]
/-- the most urgent of the first i tasks: w is what they want, e when their windows end -/
def pl_pk (w e : Nat → Nat) : Nat → Option Nat
  | 0 => none
  | i + 1 => match pl_pk w e i with
    | none => if 0 < w i then some i else none
    | some b => if 0 < w i ∧ e i < e b then some i else some b
theorem pl_pk_lt {w e : Nat → Nat} {i b : Nat} (h : pl_pk w e i = some b) : b < i ∧ 0 < w b := by
  induction i with
  | zero => cases h
  | succ i ih =>
    unfold pl_pk at h
    rcases hq : pl_pk w e i with _ | c
    · rw [hq] at h
      dsimp only at h
      by_cases c : 0 < w i
      · rw [if_pos c] at h; cases h; exact ⟨by omega, c⟩
      · rw [if_neg c] at h; cases h
    · rw [hq] at h
      dsimp only at h
      by_cases d : 0 < w i ∧ e i < e c
      · rw [if_pos d] at h; cases h; exact ⟨by omega, d.1⟩
      · rw [if_neg d] at h; cases h
        have := ih hq
        exact ⟨by omega, this.2⟩
theorem pl_pk_n1 {w e : Nat → Nat} {i : Nat} (h : pl_pk w e i = none) (c : 0 < w i) : pl_pk w e (i + 1) = some i := by
  unfold pl_pk; rw [h]; dsimp only; rw [if_pos c]
theorem pl_pk_n0 {w e : Nat → Nat} {i : Nat} (h : pl_pk w e i = none) (c : ¬ 0 < w i) : pl_pk w e (i + 1) = none := by
  unfold pl_pk; rw [h]; dsimp only; rw [if_neg c]
theorem pl_pk_s1 {w e : Nat → Nat} {i b : Nat} (h : pl_pk w e i = some b) (c : 0 < w i ∧ e i < e b) : pl_pk w e (i + 1) = some i := by
  unfold pl_pk; rw [h]; dsimp only; rw [if_pos c]
theorem pl_pk_s0 {w e : Nat → Nat} {i b : Nat} (h : pl_pk w e i = some b) (c : ¬ (0 < w i ∧ e i < e b)) : pl_pk w e (i + 1) = some b := by
  unfold pl_pk; rw [h]; dsimp only; rw [if_neg c]
/-- the choice looks at the ends of those that want alone -/
theorem pl_pk_eq {w e w' e' : Nat → Nat} {n : Nat} (hw : ∀ t, t < n → w t = w' t) (he : ∀ t, t < n → 0 < w t → e t = e' t) : pl_pk w e n = pl_pk w' e' n := by
  induction n with
  | zero => rfl
  | succ i ih =>
    have q := ih (fun t ht => hw t (by omega)) (fun t ht => he t (by omega))
    have hi := hw i (by omega)
    rcases hq : pl_pk w e i with _ | b
    · by_cases c : 0 < w i
      · rw [pl_pk_n1 hq c, pl_pk_n1 (q ▸ hq) (by omega)]
      · rw [pl_pk_n0 hq c, pl_pk_n0 (q ▸ hq) (by omega)]
    · have hb := pl_pk_lt hq
      have e1 := he b (by omega) hb.2
      by_cases c : 0 < w i ∧ e i < e b
      · have e2 := he i (by omega) c.1
        rw [pl_pk_s1 hq c, pl_pk_s1 (q ▸ hq) ⟨by omega, by omega⟩]
      · rw [pl_pk_s0 hq c, pl_pk_s0 (q ▸ hq) (fun d => c ⟨by omega, by have e2 := he i (by omega) (by omega); omega⟩)]
def pl_w1 (of per wk : Nat → Nat) (c : Nat) (w : Nat → Nat) : Nat → Nat := fun t => if sp_rel (of t) (per t) c then wk t else w t
def pl_e1 (of per dl : Nat → Nat) (c : Nat) (e : Nat → Nat) : Nat → Nat := fun t => if sp_rel (of t) (per t) c then c + dl t else e t
def pl_w2 (w : Nat → Nat) (k : Option Nat) : Nat → Nat := fun t => if k = some t then w t - 1 else w t
/-- what the tasks want, and when their windows end, ahead of tick c -/
def pl_sim (n : Nat) (per wk dl of : Nat → Nat) : Nat → (Nat → Nat) × (Nat → Nat)
  | 0 => (fun _ => 0, fun _ => 0)
  | c + 1 => (pl_w2 (pl_w1 of per wk c (pl_sim n per wk dl of c).1) (pl_pk (pl_w1 of per wk c (pl_sim n per wk dl of c).1) (pl_e1 of per dl c (pl_sim n per wk dl of c).2) n), pl_e1 of per dl c (pl_sim n per wk dl of c).2)
def pl_who (n : Nat) (per wk dl of : Nat → Nat) (c : Nat) : Option Nat := pl_pk (pl_w1 of per wk c (pl_sim n per wk dl of c).1) (pl_e1 of per dl c (pl_sim n per wk dl of c).2) n
def pl_miss (n : Nat) (per wk dl of : Nat → Nat) (c : Nat) : Prop := ∃ t, t < n ∧ 0 < (pl_sim n per wk dl of c).1 t ∧ (pl_sim n per wk dl of c).2 t ≤ c
theorem pl_sim_w {n : Nat} {per wk dl of : Nat → Nat} (hb : ∀ t, t < n → wk t ≤ 48) (c t : Nat) (ht : t < n) : (pl_sim n per wk dl of c).1 t ≤ 48 := by
  induction c with
  | zero => exact Nat.zero_le _
  | succ c ih =>
    have q := hb t ht
    have hw : pl_w1 of per wk c (pl_sim n per wk dl of c).1 t ≤ 48 := by
      unfold pl_w1
      by_cases d : sp_rel (of t) (per t) c
      · rw [if_pos d]; exact q
      · rw [if_neg d]; exact ih
    show pl_w2 _ _ t ≤ 48
    unfold pl_w2
    split <;> omega
theorem pl_sim_e {n : Nat} {per wk dl of : Nat → Nat} (hb : ∀ t, t < n → dl t ≤ 48) (c t : Nat) (ht : t < n) : (pl_sim n per wk dl of c).2 t ≤ c + 48 := by
  induction c with
  | zero => exact Nat.zero_le _
  | succ c ih =>
    have q := hb t ht
    show pl_e1 of per dl c (pl_sim n per wk dl of c).2 t ≤ c + 1 + 48
    unfold pl_e1
    by_cases d : sp_rel (of t) (per t) c
    · rw [if_pos d]; omega
    · rw [if_neg d]; omega
/-- the planner's two rows hold w, and e where something is wanted -/
def plOK (M : Nat → Nat → Int32) (n : Nat) (w e : Nat → Nat) : Prop := ∀ t, t < n → M 8 t = nI (w t) ∧ (0 < w t → M 9 t = nI (e t)) ∧ w t < 2 ^ 20 ∧ e t < 2 ^ 20

set_option maxHeartbeats 4000000 in
set_option maxRecDepth 100000 in
/-- mostUrgent -/
theorem c_Pl_mostUrgent (l : Launch) (D : va_G) (ca : Nat → ClassId) (ad : Nat → Nat) (M : Nat → Nat → Int32) (n : Nat) (w en : Nat → Nat) (hn : n ≤ 6) (hP : plOK M n w en) : xw_Mi l y_Pl_mostUrgent (.code y_Pl_mostUrgent b_Pl_mostUrgent 4 (some .int) :: zG) { frames := 0, cells := 0, slots := 0, locals := 0 } D zCl (zT ca) [.ref (ad 7), .int (nI n)] (zW ca ad M) (fun _ => True) 0 0 (zW ca ad) (fun r M' => M' = M ∧ r = oI (pl_pk w en n)) := by
  intro sz
  refine xw_met (cc := b_Pl_mostUrgent) (maxL := 4) (ret := (some .int)) (by decide) rfl (Nat.le_of_ble_eq_true rfl) (fun p e s m args below meth c hr hlk hnm hsz hKs C => ?_)
  have loop1 : ∀ (d : Nat) (i : Nat) (v : Int32), n - i = d → i ≤ n → v = oI (pl_pk w en i) → XW p l e { frames := 0, cells := 0, slots := 0, locals := 0 } s m args below meth c D zCl (va_A (zW ca ad M) sz) s.heap 4 (zW ca ad M) 0 0 (MQ below (va_Qi (fun r M' => M' = M ∧ r = oI (pl_pk w en n)) (xw_B D zCl (zT ca) (va_A (zW ca ad M) sz) (zW ca ad)) (va_A (zW ca ad M) sz)) args s 0 0 (va_A (zW ca ad M) sz)) 4 [(0, .ref (ad 7)), (1, .int (nI n)), (2, .int v), (3, .int (nI i))] [] := by
    intro d
    induction d using Nat.strongRecOn with
    | _ d ih =>
      intro i v hd hi hv
      rcases hq : pl_pk w en i with _ | b
      ·
        have hv : v = -1 := by rw [hv, hq]; rfl
        subst hv
        refine xw_iload_n C 3 d_Pl_mostUrgent_4 rfl rfl (pc' := 5) rfl ?_
        refine xw_iload_n C 1 d_Pl_mostUrgent_5 rfl rfl (pc' := 6) rfl ?_
        refine xw_icmp_ge C (tgt := 46) d_Pl_mostUrgent_6 (by decide) (pc' := 9) rfl (fun h6 => ?_) (fun h6 => ?_)
        ·
          replace h6 : n ≤ i := (nI_leI (by omega) (by omega)).mp h6
          refine xw_iload_n C 2 d_Pl_mostUrgent_46 rfl rfl (pc' := 47) rfl ?_
          refine xw_iret C hr hlk (F := zW ca ad) M rfl ?_ d_Pl_mostUrgent_47
          exact ⟨rfl, by rw [show n = i by omega, hq]; rfl⟩
        ·
          replace h6 : ¬ (n ≤ i) := fun hneg => h6 ((nI_leI (by omega) (by omega)).mpr hneg)
          refine xw_aload_n C 0 d_Pl_mostUrgent_9 rfl rfl (pc' := 10) rfl ?_
          refine xw_get C u_Pl 7 zr_7 rfl 0 (by decide) k_160 rfl rfl d_Pl_mostUrgent_10 (pc' := 13) rfl ?_
          refine xw_iload_n C 3 d_Pl_mostUrgent_13 rfl rfl (pc' := 14) rfl ?_
          refine xw_iald C 8 0 zr_8 rfl i rfl (by omega) (by decide) d_Pl_mostUrgent_14 (pc' := 15) rfl ?_
          have hwi := hP i (by omega)
          refine xw_topi (y := nI (w i)) (hP _ (by omega)).1 ?_
          refine xw_if_le C (tgt := 40) d_Pl_mostUrgent_15 (by decide) (pc' := 18) rfl (fun h15 => ?_) (fun h15 => ?_)
          ·
            replace h15 : (w i) ≤ 0 := (xp_le0 (by omega)).mp h15
            refine xw_iinc C 3 (v := nI (i + 1)) d_Pl_mostUrgent_40 rfl (xp_inc1 _) (by decide) rfl (pc' := 43) rfl ?_
            refine xw_goto C (tgt := 4) d_Pl_mostUrgent_43 (by decide) ?_
            refine xw_lv [1, 2, 3, 0] rfl ?_
            exact ih (n - (i + 1)) (by omega) (i + 1) _ rfl (by omega) (by rw [pl_pk_n0 hq (by omega)]; rfl)
          ·
            replace h15 : ¬ ((w i) ≤ 0) := fun hneg => h15 ((xp_le0 (by omega)).mpr hneg)
            refine xw_iload_n C 2 d_Pl_mostUrgent_18 rfl rfl (pc' := 19) rfl ?_
            refine xw_iconst C (v := (-1)) d_Pl_mostUrgent_19 (by decide) (pc' := 20) rfl ?_
            refine xw_icmp_eq C (tgt := 38) d_Pl_mostUrgent_20 (by decide) (pc' := 23) rfl (fun h20 => ?_) (fun h20 => ?_)
            ·
              refine xw_iload_n C 3 d_Pl_mostUrgent_38 rfl rfl (pc' := 39) rfl ?_
              refine xw_istore_n C d_Pl_mostUrgent_39 rfl (by decide) rfl (pc' := 40) rfl ?_
              refine xw_iinc C 3 (v := nI (i + 1)) d_Pl_mostUrgent_40 rfl (xp_inc1 _) (by decide) rfl (pc' := 43) rfl ?_
              refine xw_goto C (tgt := 4) d_Pl_mostUrgent_43 (by decide) ?_
              refine xw_lv [2, 3, 1, 0] rfl ?_
              exact ih (n - (i + 1)) (by omega) (i + 1) _ rfl (by omega) (by rw [pl_pk_n1 hq (by omega)]; rfl)
            ·
              exact absurd rfl h20
      ·
        have hv : v = nI b := by rw [hv, hq]; rfl
        subst hv
        have hb := pl_pk_lt hq
        have hPb := hP b (by omega)
        refine xw_iload_n C 3 d_Pl_mostUrgent_4 rfl rfl (pc' := 5) rfl ?_
        refine xw_iload_n C 1 d_Pl_mostUrgent_5 rfl rfl (pc' := 6) rfl ?_
        refine xw_icmp_ge C (tgt := 46) d_Pl_mostUrgent_6 (by decide) (pc' := 9) rfl (fun h6 => ?_) (fun h6 => ?_)
        ·
          replace h6 : n ≤ i := (nI_leI (by omega) (by omega)).mp h6
          refine xw_iload_n C 2 d_Pl_mostUrgent_46 rfl rfl (pc' := 47) rfl ?_
          refine xw_iret C hr hlk (F := zW ca ad) M rfl ?_ d_Pl_mostUrgent_47
          exact ⟨rfl, by rw [show n = i by omega, hq]; rfl⟩
        ·
          replace h6 : ¬ (n ≤ i) := fun hneg => h6 ((nI_leI (by omega) (by omega)).mpr hneg)
          refine xw_aload_n C 0 d_Pl_mostUrgent_9 rfl rfl (pc' := 10) rfl ?_
          refine xw_get C u_Pl 7 zr_7 rfl 0 (by decide) k_160 rfl rfl d_Pl_mostUrgent_10 (pc' := 13) rfl ?_
          refine xw_iload_n C 3 d_Pl_mostUrgent_13 rfl rfl (pc' := 14) rfl ?_
          refine xw_iald C 8 0 zr_8 rfl i rfl (by omega) (by decide) d_Pl_mostUrgent_14 (pc' := 15) rfl ?_
          have hwi := hP i (by omega)
          refine xw_topi (y := nI (w i)) (hP _ (by omega)).1 ?_
          refine xw_if_le C (tgt := 40) d_Pl_mostUrgent_15 (by decide) (pc' := 18) rfl (fun h15 => ?_) (fun h15 => ?_)
          ·
            replace h15 : (w i) ≤ 0 := (xp_le0 (by omega)).mp h15
            refine xw_iinc C 3 (v := nI (i + 1)) d_Pl_mostUrgent_40 rfl (xp_inc1 _) (by decide) rfl (pc' := 43) rfl ?_
            refine xw_goto C (tgt := 4) d_Pl_mostUrgent_43 (by decide) ?_
            refine xw_lv [1, 2, 3, 0] rfl ?_
            exact ih (n - (i + 1)) (by omega) (i + 1) _ rfl (by omega) (by rw [pl_pk_s0 hq (by omega)]; rfl)
          ·
            replace h15 : ¬ ((w i) ≤ 0) := fun hneg => h15 ((xp_le0 (by omega)).mpr hneg)
            refine xw_iload_n C 2 d_Pl_mostUrgent_18 rfl rfl (pc' := 19) rfl ?_
            refine xw_iconst C (v := (-1)) d_Pl_mostUrgent_19 (by decide) (pc' := 20) rfl ?_
            refine xw_icmp_eq C (tgt := 38) d_Pl_mostUrgent_20 (by decide) (pc' := 23) rfl (fun h20 => ?_) (fun h20 => ?_)
            ·
              exact absurd h20 (xp_nem1 (by omega))
            ·
              refine xw_aload_n C 0 d_Pl_mostUrgent_23 rfl rfl (pc' := 24) rfl ?_
              refine xw_get C u_Pl 7 zr_7 rfl 1 (by decide) k_161 rfl rfl d_Pl_mostUrgent_24 (pc' := 27) rfl ?_
              refine xw_iload_n C 3 d_Pl_mostUrgent_27 rfl rfl (pc' := 28) rfl ?_
              
              refine xw_iald C 9 0 zr_9 rfl i rfl (by omega) (by decide) d_Pl_mostUrgent_28 (pc' := 29) rfl ?_
              refine xw_topi (y := nI (en i)) ((hP i (by omega)).2.1 (by omega)) ?_
              refine xw_aload_n C 0 d_Pl_mostUrgent_29 rfl rfl (pc' := 30) rfl ?_
              refine xw_get C u_Pl 7 zr_7 rfl 1 (by decide) k_161 rfl rfl d_Pl_mostUrgent_30 (pc' := 33) rfl ?_
              refine xw_iload_n C 2 d_Pl_mostUrgent_33 rfl rfl (pc' := 34) rfl ?_
              refine xw_iald C 9 0 zr_9 rfl b rfl (by omega) (by decide) d_Pl_mostUrgent_34 (pc' := 35) rfl ?_
              refine xw_topi (y := nI (en b)) ((hP b (by omega)).2.1 (by omega)) ?_
              refine xw_icmp_ge C (tgt := 40) d_Pl_mostUrgent_35 (by decide) (pc' := 38) rfl (fun h35 => ?_) (fun h35 => ?_)
              ·
                replace h35 : (en b) ≤ (en i) := (nI_leI (by omega) (by omega)).mp h35
                refine xw_iinc C 3 (v := nI (i + 1)) d_Pl_mostUrgent_40 rfl (xp_inc1 _) (by decide) rfl (pc' := 43) rfl ?_
                refine xw_goto C (tgt := 4) d_Pl_mostUrgent_43 (by decide) ?_
                refine xw_lv [1, 2, 3, 0] rfl ?_
                exact ih (n - (i + 1)) (by omega) (i + 1) _ rfl (by omega) (by rw [pl_pk_s0 hq (by omega)]; rfl)
              ·
                replace h35 : ¬ ((en b) ≤ (en i)) := fun hneg => h35 ((nI_leI (by omega) (by omega)).mpr hneg)
                refine xw_iload_n C 3 d_Pl_mostUrgent_38 rfl rfl (pc' := 39) rfl ?_
                refine xw_istore_n C d_Pl_mostUrgent_39 rfl (by decide) rfl (pc' := 40) rfl ?_
                refine xw_iinc C 3 (v := nI (i + 1)) d_Pl_mostUrgent_40 rfl (xp_inc1 _) (by decide) rfl (pc' := 43) rfl ?_
                refine xw_goto C (tgt := 4) d_Pl_mostUrgent_43 (by decide) ?_
                refine xw_lv [2, 3, 1, 0] rfl ?_
                exact ih (n - (i + 1)) (by omega) (i + 1) _ rfl (by omega) (by rw [pl_pk_s1 hq ⟨by omega, by omega⟩]; rfl)
  refine xw_lvE (lv' := [(0, .ref (ad 7)), (1, .int (nI n))]) rfl ?_
  refine xw_iconst C (v := (-1)) d_Pl_mostUrgent_0 (by decide) (pc' := 1) rfl ?_
  refine xw_istore_n C d_Pl_mostUrgent_1 rfl (by decide) rfl (pc' := 2) rfl ?_
  refine xw_iconst C (v := nI 0) d_Pl_mostUrgent_2 (by decide) (pc' := 3) rfl ?_
  refine xw_istore_n C d_Pl_mostUrgent_3 rfl (by decide) rfl (pc' := 4) rfl ?_
  refine xw_lv [2, 3, 1, 0] rfl ?_
  exact loop1 n 0 _ rfl (by omega) rfl

set_option maxHeartbeats 4000000 in
set_option maxRecDepth 100000 in
/-- missesWindow -/
theorem c_Pl_missesWindow (l : Launch) (D : va_G) (ca : Nat → ClassId) (ad : Nat → Nat) (M : Nat → Nat → Int32) (n : Nat) (w en : Nat → Nat) (tm : Nat) (hn : n ≤ 6) (hP : plOK M n w en) (htm : tm < 2 ^ 31) : xw_Mi l y_Pl_missesWindow (.code y_Pl_missesWindow b_Pl_missesWindow 4 (some .boolean) :: zG) { frames := 0, cells := 0, slots := 0, locals := 0 } D zCl (zT ca) [.ref (ad 7), .int (nI n), .int (nI tm)] (zW ca ad M) (fun _ => True) 0 0 (zW ca ad) (fun r M' => M' = M ∧ ((∃ t, t < n ∧ 0 < w t ∧ en t ≤ tm) ∧ r = nI 1 ∨ ¬ (∃ t, t < n ∧ 0 < w t ∧ en t ≤ tm) ∧ r = nI 0)) := by
  intro sz
  refine xw_met (cc := b_Pl_missesWindow) (maxL := 4) (ret := (some .boolean)) (by decide) rfl (Nat.le_of_ble_eq_true rfl) (fun p e s m args below meth c hr hlk hnm hsz hKs C => ?_)
  have loop1 : ∀ (d : Nat) (i : Nat), n - i = d → i ≤ n → (∀ t, t < i → ¬ (0 < w t ∧ en t ≤ tm)) → XW p l e { frames := 0, cells := 0, slots := 0, locals := 0 } s m args below meth c D zCl (va_A (zW ca ad M) sz) s.heap 4 (zW ca ad M) 0 0 (MQ below (va_Qi (fun r M' => M' = M ∧ ((∃ t, t < n ∧ 0 < w t ∧ en t ≤ tm) ∧ r = nI 1 ∨ ¬ (∃ t, t < n ∧ 0 < w t ∧ en t ≤ tm) ∧ r = nI 0)) (xw_B D zCl (zT ca) (va_A (zW ca ad M) sz) (zW ca ad)) (va_A (zW ca ad M) sz)) args s 0 0 (va_A (zW ca ad M) sz)) 2 [(0, .ref (ad 7)), (1, .int (nI n)), (2, .int (nI tm)), (3, .int (nI i))] [] := by
    intro d
    induction d using Nat.strongRecOn with
    | _ d ih =>
      intro i hd hi hall
      refine xw_iload_n C 3 d_Pl_missesWindow_2 rfl rfl (pc' := 3) rfl ?_
      refine xw_iload_n C 1 d_Pl_missesWindow_3 rfl rfl (pc' := 4) rfl ?_
      refine xw_icmp_ge C (tgt := 34) d_Pl_missesWindow_4 (by decide) (pc' := 7) rfl (fun h4 => ?_) (fun h4 => ?_)
      ·
        replace h4 : n ≤ i := (nI_leI (by omega) (by omega)).mp h4
        refine xw_iconst C (v := nI 0) d_Pl_missesWindow_34 (by decide) (pc' := 35) rfl ?_
        refine xw_zret C hr hlk xp_n0 (F := zW ca ad) M rfl ?_ d_Pl_missesWindow_35
        exact ⟨rfl, Or.inr ⟨fun h9 => by obtain ⟨t, h1, h2⟩ := h9; exact hall t (by omega) h2, rfl⟩⟩
      ·
        replace h4 : ¬ (n ≤ i) := fun hneg => h4 ((nI_leI (by omega) (by omega)).mpr hneg)
        refine xw_aload_n C 0 d_Pl_missesWindow_7 rfl rfl (pc' := 8) rfl ?_
        refine xw_get C u_Pl 7 zr_7 rfl 0 (by decide) k_160 rfl rfl d_Pl_missesWindow_8 (pc' := 11) rfl ?_
        refine xw_iload_n C 3 d_Pl_missesWindow_11 rfl rfl (pc' := 12) rfl ?_
        refine xw_iald C 8 0 zr_8 rfl i rfl (by omega) (by decide) d_Pl_missesWindow_12 (pc' := 13) rfl ?_
        have hwi := hP i (by omega)
        refine xw_topi (y := nI (w i)) (hP _ (by omega)).1 ?_
        refine xw_if_le C (tgt := 28) d_Pl_missesWindow_13 (by decide) (pc' := 16) rfl (fun h13 => ?_) (fun h13 => ?_)
        ·
          replace h13 : (w i) ≤ 0 := (xp_le0 (by omega)).mp h13
          refine xw_iinc C 3 (v := nI (i + 1)) d_Pl_missesWindow_28 rfl (xp_inc1 _) (by decide) rfl (pc' := 31) rfl ?_
          refine xw_goto C (tgt := 2) d_Pl_missesWindow_31 (by decide) ?_
          refine xw_lv [1, 2, 3, 0] rfl ?_
          exact ih (n - (i + 1)) (by omega) (i + 1) rfl (by omega) (fun t ht => by
            rcases Nat.lt_or_ge t i with c9 | c9
            · exact hall t c9
            · rw [show t = i by omega]; omega)
        ·
          replace h13 : ¬ ((w i) ≤ 0) := fun hneg => h13 ((xp_le0 (by omega)).mpr hneg)
          refine xw_aload_n C 0 d_Pl_missesWindow_16 rfl rfl (pc' := 17) rfl ?_
          refine xw_get C u_Pl 7 zr_7 rfl 1 (by decide) k_161 rfl rfl d_Pl_missesWindow_17 (pc' := 20) rfl ?_
          refine xw_iload_n C 3 d_Pl_missesWindow_20 rfl rfl (pc' := 21) rfl ?_
          refine xw_iald C 9 0 zr_9 rfl i rfl (by omega) (by decide) d_Pl_missesWindow_21 (pc' := 22) rfl ?_
          refine xw_topi (y := nI (en i)) ((hP i (by omega)).2.1 (by omega)) ?_
          refine xw_iload_n C 2 d_Pl_missesWindow_22 rfl rfl (pc' := 23) rfl ?_
          refine xw_icmp_gt C (tgt := 28) d_Pl_missesWindow_23 (by decide) (pc' := 26) rfl (fun h23 => ?_) (fun h23 => ?_)
          ·
            replace h23 : tm < (en i) := (nI_ltI (by omega) (by omega)).mp h23
            refine xw_iinc C 3 (v := nI (i + 1)) d_Pl_missesWindow_28 rfl (xp_inc1 _) (by decide) rfl (pc' := 31) rfl ?_
            refine xw_goto C (tgt := 2) d_Pl_missesWindow_31 (by decide) ?_
            refine xw_lv [1, 2, 3, 0] rfl ?_
            exact ih (n - (i + 1)) (by omega) (i + 1) rfl (by omega) (fun t ht => by
              rcases Nat.lt_or_ge t i with c9 | c9
              · exact hall t c9
              · rw [show t = i by omega]; omega)
          ·
            replace h23 : ¬ (tm < (en i)) := fun hneg => h23 ((nI_ltI (by omega) (by omega)).mpr hneg)
            refine xw_iconst C (v := nI 1) d_Pl_missesWindow_26 (by decide) (pc' := 27) rfl ?_
            refine xw_zret C hr hlk xp_n1 (F := zW ca ad) M rfl ?_ d_Pl_missesWindow_27
            exact ⟨rfl, Or.inl ⟨⟨i, by omega, by omega, by omega⟩, rfl⟩⟩
  refine xw_lvE (lv' := [(0, .ref (ad 7)), (1, .int (nI n)), (2, .int (nI tm))]) rfl ?_
  refine xw_iconst C (v := nI 0) d_Pl_missesWindow_0 (by decide) (pc' := 1) rfl ?_
  refine xw_istore_n C d_Pl_missesWindow_1 rfl (by decide) rfl (pc' := 2) rfl ?_
  refine xw_lv [1, 2, 3, 0] rfl ?_
  exact loop1 n 0 rfl (by omega) (fun t ht => by omega)

set_option maxHeartbeats 4000000 in
set_option maxRecDepth 100000 in
/-- release(tm) -/
theorem c_Pl_release (l : Launch) (D : va_G) (ca : Nat → ClassId) (ad : Nat → Nat) (M : Nat → Nat → Int32) (n : Nat) (per wk dl of : Nat → Nat) (tm : Nat) (hT : tkOK M n per wk dl of) (htm : tm < 2 ^ 31) : xw_Mv l y_Pl_release (.code y_Pl_release b_Pl_release 5 none :: zG) { frames := 1, cells := 0, slots := 0, locals := 21 } D zCl (zT ca) [.ref (ad 7), .ref (ad 1), .int (nI tm)] (zW ca ad M) (fun _ => True) 0 0 (zW ca ad) (fun M' => (∀ a b, a ≠ 8 → a ≠ 9 → M' a b = M a b) ∧ (∀ t, t < n → M' 8 t = if t < n ∧ sp_rel (of t) (per t) tm then nI (wk t) else M 8 t) ∧ (∀ t, t < n → M' 9 t = if t < n ∧ sp_rel (of t) (per t) tm then nI (tm + dl t) else M 9 t)) := by
  intro sz
  refine xw_met (cc := b_Pl_release) (maxL := 5) (ret := none) (by decide) rfl (Nat.le_of_ble_eq_true rfl) (fun p e s m args below meth c hr hlk hnm hsz hKs C => ?_)
  have hn6 := hT.1
  have loop1 : ∀ (d : Nat) (i : Nat) (M1 : Nat → Nat → Int32), n - i = d → i ≤ n → ((∀ a b, a ≠ 8 → a ≠ 9 → M1 a b = M a b) ∧ (∀ t, t < n → M1 8 t = if t < i ∧ sp_rel (of t) (per t) tm then nI (wk t) else M 8 t) ∧ (∀ t, t < n → M1 9 t = if t < i ∧ sp_rel (of t) (per t) tm then nI (tm + dl t) else M 9 t)) → XW p l e { frames := 1, cells := 0, slots := 0, locals := 21 } s m args below meth c D zCl (va_A (zW ca ad M) sz) s.heap 5 (zW ca ad M1) 0 0 (MQ below (va_Qv (fun M' => (∀ a b, a ≠ 8 → a ≠ 9 → M' a b = M a b) ∧ (∀ t, t < n → M' 8 t = if t < n ∧ sp_rel (of t) (per t) tm then nI (wk t) else M 8 t) ∧ (∀ t, t < n → M' 9 t = if t < n ∧ sp_rel (of t) (per t) tm then nI (tm + dl t) else M 9 t)) (xw_B D zCl (zT ca) (va_A (zW ca ad M) sz) (zW ca ad)) (va_A (zW ca ad M) sz)) args s 0 0 (va_A (zW ca ad M) sz)) 2 [(0, .ref (ad 7)), (1, .ref (ad 1)), (2, .int (nI tm)), (3, .int (nI i))] [] := by
    intro d
    induction d using Nat.strongRecOn with
    | _ d ih =>
      intro i M1 hd hi hK
      obtain ⟨hk1, hk2, hk3⟩ := hK
      have hT1 : tkOK M1 n per wk dl of := hT.keep (hk1 _ _ (by decide) (by decide)) (fun t j ht => hk1 _ _ (by omega) (by omega))
      refine xw_iload_n C 3 d_Pl_release_2 rfl rfl (pc' := 3) rfl ?_
      refine xw_aload_n C 1 d_Pl_release_3 rfl rfl (pc' := 4) rfl ?_
      refine xw_get C u_Tl 1 zr_1 rfl 1 (by decide) k_127 rfl rfl d_Pl_release_4 (pc' := 7) rfl ?_
      refine xw_topi (y := nI n) ((hk1 _ _ (by decide) (by decide)).trans hT.2.1) ?_
      refine xw_icmp_ge C (tgt := 57) d_Pl_release_7 (by decide) (pc' := 10) rfl (fun h7 => ?_) (fun h7 => ?_)
      ·
        replace h7 : n ≤ i := (nI_leI (by omega) (by omega)).mp h7
        refine xw_vret C hr hlk (F := zW ca ad) M1 rfl ?_ d_Pl_release_57
        rw [show i = n by omega] at hk2 hk3
        exact ⟨hk1, hk2, hk3⟩
      ·
        replace h7 : ¬ (n ≤ i) := fun hneg => h7 ((nI_leI (by omega) (by omega)).mpr hneg)
        refine xw_aload_n C 1 d_Pl_release_10 rfl rfl (pc' := 11) rfl ?_
        refine xw_get C u_Tl 1 zr_1 rfl 0 (by decide) k_124 rfl rfl d_Pl_release_11 (pc' := 14) rfl ?_
        refine xw_iload_n C 3 d_Pl_release_14 rfl rfl (pc' := 15) rfl ?_
        refine xw_aald C 2 1 zr_2 rfl i rfl (by omega) (by decide) rfl d_Pl_release_15 (pc' := 16) rfl ?_
        refine xw_astore C d_Pl_release_16 (by decide) rfl (pc' := 18) rfl ?_
        refine xw_aload C 0 d_Pl_release_18 rfl (pc' := 20) rfl ?_
        refine xw_iload_n C 3 d_Pl_release_20 rfl rfl (pc' := 21) rfl ?_
        refine xw_callVi C (c_Tk_releasesAt l D ca ad M1 i tm (of i) (per i) (by omega) (by omega) (hT1.2.2 _ (by omega)).2.2.2.1 (by have := hT.2.2 i (by omega); omega) (hT1.2.2 _ (by omega)).1 (by have := hT.2.2 i (by omega); omega) (by have := hT.2.2 i (by omega); omega)) ⟨zg_B C 1 k_407 k_26 k_410 q_Tk_releasesAt ⟨by decide, by decide⟩, C.2.2.2.2.1 _ k_408, C.2.2.2.2.1 _ k_409⟩ (14 + i) (zr_Tk (t := i) (by omega)) rfl rfl (fun _ _ _ _ h => h) (fun _ _ _ _ _ _ _ => trivial) rfl rfl (Nat.le_of_ble_eq_true rfl) d_Pl_release_21 ⟨by decide, by decide⟩ (pc' := 24) rfl (fun r51 M52 hp53 => ?_)
        obtain ⟨hme, hp53⟩ := hp53
        rw [hme]
        clear hme
        rcases hp53 with ⟨hrl, rfl⟩ | ⟨hrl, rfl⟩
        ·
          refine xw_if_eq C (tgt := 51) d_Pl_release_24 (by decide) (pc' := 27) rfl (fun h24 => ?_) (fun h24 => ?_)
          ·
            replace h24 : 1 = 0 := (xp_eq0 (by omega)).mp h24
            omega
          ·
            replace h24 : ¬ (1 = 0) := fun hneg => h24 ((xp_eq0 (by omega)).mpr hneg)
            refine xw_aload_n C 1 d_Pl_release_27 rfl rfl (pc' := 28) rfl ?_
            refine xw_get C u_Pl 7 zr_7 rfl 0 (by decide) k_160 rfl rfl d_Pl_release_28 (pc' := 31) rfl ?_
            refine xw_iload_n C 4 d_Pl_release_31 rfl rfl (pc' := 32) rfl ?_
            refine xw_aload C 0 d_Pl_release_32 rfl (pc' := 34) rfl ?_
            refine xw_get C u_Tk (14 + i) (zr_Tk (t := i) (by omega)) rfl 1 (by decide) k_93 rfl rfl d_Pl_release_34 (pc' := 37) rfl ?_
            refine xw_topi (y := nI (wk i)) (hT1.2.2 i (by omega)).2.1 ?_
            obtain ⟨M54, hM54⟩ : ∃ z, z = zst M1 8 i (nI (wk i)) := ⟨_, rfl⟩
            refine xw_iast C 8 0 zr_8 rfl i rfl (by omega) (by decide) (ws' := zW ca ad M54) (by rw [hM54]; exact zs_8 _ _) d_Pl_release_37 (pc' := 38) rfl ?_
            have hT2 : tkOK M54 n per wk dl of := hT1.keep (by rw [hM54, zst_ap, if_neg (fun h9 => absurd h9.1 (by decide))]) (fun t j ht => by rw [hM54, zst_ap, if_neg (fun h9 => absurd h9.1 (by omega))])
            refine xw_aload_n C 1 d_Pl_release_38 rfl rfl (pc' := 39) rfl ?_
            refine xw_get C u_Pl 7 zr_7 rfl 1 (by decide) k_161 rfl rfl d_Pl_release_39 (pc' := 42) rfl ?_
            refine xw_iload_n C 4 d_Pl_release_42 rfl rfl (pc' := 43) rfl ?_
            refine xw_iload_n C 3 d_Pl_release_43 rfl rfl (pc' := 44) rfl ?_
            refine xw_aload C 0 d_Pl_release_44 rfl (pc' := 46) rfl ?_
            refine xw_get C u_Tk (14 + i) (zr_Tk (t := i) (by omega)) rfl 2 (by decide) k_97 rfl rfl d_Pl_release_46 (pc' := 49) rfl ?_
            refine xw_topi (y := nI (dl i)) (hT2.2.2 i (by omega)).2.2.1 ?_
            refine xw_iadd C d_Pl_release_49 (pc' := 50) rfl ?_
            refine xw_topi (y := nI (tm + (dl i))) (nI_add _ _) ?_
            obtain ⟨M55, hM55⟩ : ∃ z, z = zst M54 9 i (nI (tm + (dl i))) := ⟨_, rfl⟩
            refine xw_iast C 9 0 zr_9 rfl i rfl (by omega) (by decide) (ws' := zW ca ad M55) (by rw [hM55]; exact zs_9 _ _) d_Pl_release_50 (pc' := 51) rfl ?_
            refine xw_iinc C 4 (v := nI (i + 1)) d_Pl_release_51 rfl (xp_inc1 _) (by decide) rfl (pc' := 54) rfl ?_
            refine xw_goto C (tgt := 2) d_Pl_release_54 (by decide) ?_
            refine xw_lv [2, 3, 4, 0] rfl ?_
            refine ih (n - (i + 1)) (by omega) (i + 1) M55 rfl (by omega) ⟨fun a b h1 h2 => ?_, fun t ht => ?_, fun t ht => ?_⟩
            · rw [hM55, zst_ap, if_neg (fun h9 => h2 h9.1), hM54, zst_ap, if_neg (fun h9 => h1 h9.1)]; exact hk1 a b h1 h2
            · rw [hM55, zst_ap, if_neg (fun h9 => absurd h9.1 (by decide)), hM54, zst_ap]
              by_cases c : t = i
              · subst c; rw [if_pos ⟨rfl, rfl⟩, if_pos ⟨by omega, hrl⟩]
              · rw [if_neg (fun h9 => c h9.2), hk2 t ht]
                by_cases c2 : t < i ∧ sp_rel (of t) (per t) tm
                · rw [if_pos c2, if_pos ⟨by omega, c2.2⟩]
                · rw [if_neg c2, if_neg (fun h9 => c2 ⟨by omega, h9.2⟩)]
            · rw [hM55, zst_ap]
              by_cases c : t = i
              · subst c; rw [if_pos ⟨rfl, rfl⟩, if_pos ⟨by omega, hrl⟩]
              · rw [if_neg (fun h9 => c h9.2), hM54, zst_ap, if_neg (fun h9 => absurd h9.1 (by decide)), hk3 t ht]
                by_cases c2 : t < i ∧ sp_rel (of t) (per t) tm
                · rw [if_pos c2, if_pos ⟨by omega, c2.2⟩]
                · rw [if_neg c2, if_neg (fun h9 => c2 ⟨by omega, h9.2⟩)]
        ·
          refine xw_if_eq C (tgt := 51) d_Pl_release_24 (by decide) (pc' := 27) rfl (fun h24 => ?_) (fun h24 => ?_)
          ·
            replace h24 : 0 = 0 := (xp_eq0 (by omega)).mp h24
            refine xw_iinc C 4 (v := nI (i + 1)) d_Pl_release_51 rfl (xp_inc1 _) (by decide) rfl (pc' := 54) rfl ?_
            refine xw_goto C (tgt := 2) d_Pl_release_54 (by decide) ?_
            refine xw_lv [2, 3, 4, 0] rfl ?_
            refine ih (n - (i + 1)) (by omega) (i + 1) M1 rfl (by omega) ⟨hk1, fun t ht => ?_, fun t ht => ?_⟩
            · rw [hk2 t ht]
              by_cases c : t = i
              · subst c; rw [if_neg (by omega), if_neg (fun h9 => hrl h9.2)]
              · by_cases c2 : t < i ∧ sp_rel (of t) (per t) tm
                · rw [if_pos c2, if_pos ⟨by omega, c2.2⟩]
                · rw [if_neg c2, if_neg (fun h9 => c2 ⟨by omega, h9.2⟩)]
            · rw [hk3 t ht]
              by_cases c : t = i
              · subst c; rw [if_neg (by omega), if_neg (fun h9 => hrl h9.2)]
              · by_cases c2 : t < i ∧ sp_rel (of t) (per t) tm
                · rw [if_pos c2, if_pos ⟨by omega, c2.2⟩]
                · rw [if_neg c2, if_neg (fun h9 => c2 ⟨by omega, h9.2⟩)]
          ·
            replace h24 : ¬ (0 = 0) := fun hneg => h24 ((xp_eq0 (by omega)).mpr hneg)
            omega
  refine xw_lvE (lv' := [(0, .ref (ad 7)), (1, .ref (ad 1)), (2, .int (nI tm))]) rfl ?_
  refine xw_iconst C (v := nI 0) d_Pl_release_0 (by decide) (pc' := 1) rfl ?_
  refine xw_istore_n C d_Pl_release_1 rfl (by decide) rfl (pc' := 2) rfl ?_
  refine xw_lv [1, 2, 3, 0] rfl ?_
  exact loop1 n 0 M rfl (by omega) ⟨fun _ _ _ _ => rfl, fun t ht => by rw [if_neg (by omega)], fun t ht => by rw [if_neg (by omega)]⟩
end
section
theorem plOK.rel {M1 M2 : Nat → Nat → Int32} {n c : Nat} {per wk dl of w en : Nat → Nat} (hP : plOK M1 n w en) (h2 : ∀ t, t < n → M2 8 t = if t < n ∧ sp_rel (of t) (per t) c then nI (wk t) else M1 8 t) (h3 : ∀ t, t < n → M2 9 t = if t < n ∧ sp_rel (of t) (per t) c then nI (c + dl t) else M1 9 t)
    (hb : ∀ t, t < n → wk t ≤ 48 ∧ dl t ≤ 48) (hc : c < 2 ^ 19) : plOK M2 n (pl_w1 of per wk c w) (pl_e1 of per dl c en) := by
  intro t ht
  obtain ⟨a1, a2, a3, a4⟩ := hP t ht
  have q := hb t ht
  rw [h2 t ht, h3 t ht]
  unfold pl_w1 pl_e1
  by_cases d : sp_rel (of t) (per t) c
  · have e1 : t < n ∧ sp_rel (of t) (per t) c := ⟨ht, d⟩
    rw [if_pos e1, if_pos e1, if_pos d, if_pos d]
    exact ⟨rfl, fun _ => rfl, by omega, by omega⟩
  · have e1 : ¬ (t < n ∧ sp_rel (of t) (per t) c) := fun h9 => d h9.2
    rw [if_neg e1, if_neg e1, if_neg d, if_neg d]
    exact ⟨a1, a2, a3, a4⟩
theorem plOK.dec {M M1 : Nat → Nat → Int32} {n b : Nat} {w en : Nat → Nat} (hP : plOK M n w en) (h : M1 = zst M 8 b (nI (w b - 1))) : plOK M1 n (pl_w2 w (some b)) en := by
  intro t ht
  obtain ⟨a1, a2, a3, a4⟩ := hP t ht
  have e9 : M1 9 t = M 9 t := by rw [h, zst_ap, if_neg (fun h9 => absurd h9.1 (by decide))]
  have e8 : M1 8 t = if 8 = 8 ∧ t = b then nI (w b - 1) else M 8 t := by rw [h, zst_ap]
  rw [e9, e8]
  unfold pl_w2
  by_cases c : t = b
  · subst c
    have q1 : 8 = 8 ∧ t = t := ⟨rfl, rfl⟩
    have q2 : some t = some t := rfl
    rw [if_pos q1, if_pos q2]
    exact ⟨rfl, fun h => a2 (by omega), by omega, a4⟩
  · have q1 : ¬ (8 = 8 ∧ t = b) := fun h9 => c h9.2
    have q2 : ¬ (some b = some t) := fun h9 => c (Option.some.inj h9).symm
    rw [if_neg q1, if_neg q2]
    exact ⟨a1, a2, a3, a4⟩
theorem plOK.non {M : Nat → Nat → Int32} {n : Nat} {w en : Nat → Nat} (hP : plOK M n w en) : plOK M n (pl_w2 w none) en := by
  intro t ht
  unfold pl_w2
  rw [if_neg (fun h9 => by cases h9)]
  exact hP t ht
theorem plOK.keep {M M1 : Nat → Nat → Int32} {n : Nat} {w en : Nat → Nat} (hP : plOK M n w en) (h8 : ∀ b, M1 8 b = M 8 b) (h9 : ∀ b, M1 9 b = M 9 b) : plOK M1 n w en := by
  intro t ht
  rw [h8, h9]
  exact hP t ht
/-- the tasks can be served -/
def pl_ok (n : Nat) (per wk dl of : Nat → Nat) (h : Nat) : Prop := xs_sm (fun t => wk t * (h / per t)) n ≤ h ∧ ∀ c, c ≤ xs_mx of n + h + h → ¬ pl_miss n per wk dl of c
theorem pl_miss0 {n : Nat} {per wk dl of : Nat → Nat} : ¬ pl_miss n per wk dl of 0 := by
  rintro ⟨t, h1, h2, h3⟩
  exact absurd h2 (Nat.lt_irrefl 0)
theorem xs_sm_le {f : Nat → Nat} {n b : Nat} (h : ∀ j, j < n → f j ≤ b) : xs_sm f n ≤ n * b := by
  induction n with
  | zero => exact Nat.zero_le _
  | succ n ih =>
    have q := ih (fun j hj => h j (by omega))
    have r := h n (by omega)
    show xs_sm f n + f n ≤ (n + 1) * b
    rw [Nat.succ_mul]
    omega
theorem pl_need {n h : Nat} {per wk : Nat → Nat} (hn : n ≤ 6) (hh : h ≤ 240) (hb : ∀ t, t < n → wk t ≤ 48) : xs_sm (fun t => wk t * (h / per t)) n ≤ 69120 := by
  have q := xs_sm_le (f := fun t => wk t * (h / per t)) (n := n) (b := 48 * 240) (fun j hj => Nat.mul_le_mul (hb j hj) (Nat.le_trans (Nat.div_le_self _ _) hh))
  have r : n * (48 * 240) ≤ 6 * (48 * 240) := Nat.mul_le_mul_right _ hn
  omega

theorem xp_modinj {x c a h : Nat} (h1 : a ≤ x) (h2 : x < c + 1) (h3 : c < a + h) (h4 : x % h = c % h) : x = c := by
  rcases Nat.lt_or_ge x c with d | d
  · exfalso
    have hp : 0 < h := by omega
    have e1 := Nat.div_add_mod x h
    have e2 := Nat.div_add_mod c h
    rw [h4] at e1
    have e3 : h * (c / h) = h * (x / h) + (c - x) := by omega
    have e4 : x / h < c / h := by
      rcases Nat.lt_or_ge (x / h) (c / h) with g | g
      · exact g
      · have := Nat.mul_le_mul_left h g
        omega
    have e5 : h * (x / h + 1) ≤ h * (c / h) := Nat.mul_le_mul_left h e4
    rw [Nat.mul_succ] at e5
    omega
  · omega


set_option maxHeartbeats 4000000 in
set_option maxRecDepth 100000 in
/-- plan(tasks, owners, h) -/
theorem c_Pl_plan (l : Launch) (D : va_G) (ca : Nat → ClassId) (ad : Nat → Nat) (M : Nat → Nat → Int32) (n : Nat) (per wk dl of : Nat → Nat) (h : Nat) (hT : tkOK M n per wk dl of) (hh1 : 1 ≤ h) (hh : h ≤ 240) : xw_Mi l y_Pl_plan (.code y_Pl_plan b_Pl_plan 7 (some .boolean) :: zG) { frames := 2, cells := 0, slots := 0, locals := 45 } D zCl (zT ca) [.ref (ad 7), .ref (ad 1), .ref (ad 13), .int (nI h)] (zW ca ad M) (fun _ => True) 0 0 (zW ca ad) (fun r M' => (∀ a b, a ≠ 8 → a ≠ 9 → a ≠ 13 → M' a b = M a b) ∧ (pl_ok n per wk dl of h ∧ r = nI 1 ∧ (∀ u, xs_mx of n + h ≤ u → u < xs_mx of n + h + h → M' 13 (u % h) = oI (pl_who n per wk dl of u)) ∨ ¬ pl_ok n per wk dl of h ∧ r = nI 0)) := by
  intro sz
  refine xw_met (cc := b_Pl_plan) (maxL := 7) (ret := (some .boolean)) (by decide) rfl (Nat.le_of_ble_eq_true rfl) (fun p e s m args below meth c hr hlk hnm hsz hKs C => ?_)
  have hn6 := hT.1
  have hmx : xs_mx of n ≤ 48 := xs_mx_le (fun j hj => by have := hT.2.2 j (by omega); omega)
  have hnd := pl_need (per := per) (wk := wk) hT.1 hh (fun t ht => by have := hT.2.2 t ht; omega)
  have loop0 : xs_sm (fun t => wk t * (h / per t)) n ≤ h → True := fun _ => trivial
  have loop1 : xs_sm (fun t => wk t * (h / per t)) n ≤ h → ∀ (d : Nat) (u : Nat) (M1 : Nat → Nat → Int32), (xs_mx of n + h + h) - u = d → u ≤ xs_mx of n + h + h → (∀ a b, a ≠ 8 → a ≠ 9 → a ≠ 13 → M1 a b = M a b) → plOK M1 n (pl_sim n per wk dl of u).1 (pl_sim n per wk dl of u).2 → (∀ x, x ≤ u → ¬ pl_miss n per wk dl of x) → (∀ x, xs_mx of n + h ≤ x → x < u → M1 13 (x % h) = oI (pl_who n per wk dl of x)) → XW p l e { frames := 2, cells := 0, slots := 0, locals := 45 } s m args below meth c D zCl (va_A (zW ca ad M) sz) s.heap 7 (zW ca ad M1) 0 0 (MQ below (va_Qi (fun r M' => (∀ a b, a ≠ 8 → a ≠ 9 → a ≠ 13 → M' a b = M a b) ∧ (pl_ok n per wk dl of h ∧ r = nI 1 ∧ (∀ u, xs_mx of n + h ≤ u → u < xs_mx of n + h + h → M' 13 (u % h) = oI (pl_who n per wk dl of u)) ∨ ¬ pl_ok n per wk dl of h ∧ r = nI 0)) (xw_B D zCl (zT ca) (va_A (zW ca ad M) sz) (zW ca ad)) (va_A (zW ca ad M) sz)) args s 0 0 (va_A (zW ca ad M) sz)) 30 [(0, .ref (ad 7)), (1, .ref (ad 1)), (2, .ref (ad 13)), (3, .int (nI h)), (4, .int (nI (xs_mx of n + h))), (5, .int (nI u))] [] := by
    intro hneed d
    induction d using Nat.strongRecOn with
    | _ d ih =>
      intro u M1 hd hi hf1 hP1 hms1 hw1s
      have hT1 : tkOK M1 n per wk dl of := hT.keep (hf1 _ _ (by decide) (by decide) (by decide)) (fun t j ht => hf1 _ _ (by omega) (by omega) (by omega))
      obtain ⟨w1, hw1⟩ : ∃ z, z = pl_w1 of per wk u (pl_sim n per wk dl of u).1 := ⟨_, rfl⟩
      obtain ⟨e1, he1⟩ : ∃ z, z = pl_e1 of per dl u (pl_sim n per wk dl of u).2 := ⟨_, rfl⟩
      have hsim : pl_sim n per wk dl of (u + 1) = (pl_w2 w1 (pl_pk w1 e1 n), e1) := by rw [hw1, he1]; rfl
      have hwho : pl_who n per wk dl of u = pl_pk w1 e1 n := by rw [hw1, he1]; rfl
      refine xw_iload C 5 d_Pl_plan_30 rfl (pc' := 32) rfl ?_
      refine xw_iload C 4 d_Pl_plan_32 rfl (pc' := 34) rfl ?_
      refine xw_iload_n C 3 d_Pl_plan_34 rfl rfl (pc' := 35) rfl ?_
      refine xw_iadd C d_Pl_plan_35 (pc' := 36) rfl ?_
      refine xw_topi (y := nI ((xs_mx of n + h) + h)) (nI_add _ _) ?_
      refine xw_icmp_ge C (tgt := 111) d_Pl_plan_36 (by decide) (pc' := 39) rfl (fun h36 => ?_) (fun h36 => ?_)
      ·
        replace h36 : ((xs_mx of n + h) + h) ≤ u := (nI_leI (by omega) (by omega)).mp h36
        refine xw_iconst C (v := nI 1) d_Pl_plan_111 (by decide) (pc' := 112) rfl ?_
        refine xw_zret C hr hlk xp_n1 (F := zW ca ad) M1 rfl ?_ d_Pl_plan_112
        refine ⟨hf1, Or.inl ⟨⟨by omega, fun x hx => hms1 x (by omega)⟩, rfl, fun x h1 h2 => hw1s x h1 (by omega)⟩⟩
      ·
        replace h36 : ¬ (((xs_mx of n + h) + h) ≤ u) := fun hneg => h36 ((nI_leI (by omega) (by omega)).mpr hneg)
        refine xw_aload_n C 0 d_Pl_plan_39 rfl rfl (pc' := 40) rfl ?_
        refine xw_aload_n C 1 d_Pl_plan_40 rfl rfl (pc' := 41) rfl ?_
        refine xw_iload C 5 d_Pl_plan_41 rfl (pc' := 43) rfl ?_
        refine xw_callVv C (c_Pl_release l D ca ad M1 n per wk dl of u hT1 (by omega)) ⟨zg_B C 2 k_403 k_29 k_406 q_Pl_release ⟨by decide, by decide⟩, C.2.2.2.2.1 _ k_405, C.2.2.2.2.1 _ k_3⟩ 7 zr_7 rfl rfl (fun _ _ _ _ h => h) (fun _ _ _ _ _ _ _ => trivial) rfl rfl (Nat.le_of_ble_eq_true rfl) d_Pl_plan_43 ⟨by decide, by decide⟩ (pc' := 46) rfl (fun M52 hp53 => ?_)
        obtain ⟨hr1, hr2, hr3⟩ := hp53
        have hf2 : ∀ a b, a ≠ 8 → a ≠ 9 → a ≠ 13 → M52 a b = M a b := fun a b h1 h2 h3 => (hr1 a b h1 h2).trans (hf1 a b h1 h2 h3)
        have hT2 : tkOK M52 n per wk dl of := hT.keep (hf2 _ _ (by decide) (by decide) (by decide)) (fun t j ht => hf2 _ _ (by omega) (by omega) (by omega))
        have hP2 : plOK M52 n w1 e1 := by rw [hw1, he1]; exact hP1.rel hr2 hr3 (fun t ht => by have := hT.2.2 t ht; omega) (by omega)
        refine xw_aload_n C 0 d_Pl_plan_46 rfl rfl (pc' := 47) rfl ?_
        have hszz : M52 1 0 = nI n := (hf2 _ _ (by decide) (by decide) (by decide)).trans hT.2.1
        refine xw_aload_n C 1 d_Pl_plan_47 rfl rfl (pc' := 48) rfl ?_
        refine xw_get C u_Tl 1 zr_1 rfl 1 (by decide) k_127 rfl rfl d_Pl_plan_48 (pc' := 51) rfl ?_
        refine xw_topi (y := nI n) hszz ?_
        refine xw_callVi C (c_Pl_mostUrgent l D ca ad M52 n w1 e1 (by omega) hP2) ⟨zg_B C 1 k_411 k_29 k_414 q_Pl_mostUrgent ⟨by decide, by decide⟩, C.2.2.2.2.1 _ k_413, C.2.2.2.2.1 _ k_4⟩ 7 zr_7 rfl rfl (fun _ _ _ _ h => h) (fun _ _ _ _ _ _ _ => trivial) rfl rfl (Nat.le_of_ble_eq_true rfl) d_Pl_plan_51 ⟨by decide, by decide⟩ (pc' := 54) rfl (fun r54 M55 hp56 => ?_)
        obtain ⟨hme, hre⟩ := hp56
        rw [hme, hre]
        clear hme hre
        rcases hk : pl_pk w1 e1 n with _ | b
        ·
          refine xw_topi (y := -1) rfl ?_
          refine xw_istore C d_Pl_plan_54 (by decide) rfl (pc' := 56) rfl ?_
          refine xw_iload C 0 d_Pl_plan_56 rfl (pc' := 58) rfl ?_
          refine xw_iconst C (v := (-1)) d_Pl_plan_58 (by decide) (pc' := 59) rfl ?_
          refine xw_icmp_eq C (tgt := 73) d_Pl_plan_59 (by decide) (pc' := 62) rfl (fun h59 => ?_) (fun h59 => ?_)
          ·
            have hP3 : plOK M52 n (pl_w2 w1 (pl_pk w1 e1 n)) e1 := by rw [hk]; exact hP2.non
            have hf3 : ∀ a b, a ≠ 8 → a ≠ 9 → a ≠ 13 → M52 a b = M a b := hf2
            have ho3 : ∀ b, M52 13 b = M1 13 b := fun b => hr1 _ _ (by decide) (by decide)
            refine xw_iload C 6 d_Pl_plan_73 rfl (pc' := 75) rfl ?_
            refine xw_iload C 5 d_Pl_plan_75 rfl (pc' := 77) rfl ?_
            refine xw_icmp_lt C (tgt := 88) d_Pl_plan_77 (by decide) (pc' := 80) rfl (fun h77 => ?_) (fun h77 => ?_)
            ·
              replace h77 : u < (xs_mx of n + h) := (nI_ltI (by omega) (by omega)).mp h77
              have hP4 := hP3
              have hf4 := hf3
              have hw4 : ∀ x, xs_mx of n + h ≤ x → x < u + 1 → M52 13 (x % h) = oI (pl_who n per wk dl of x) := fun x h1 h2 => by omega
              refine xw_aload_n C 1 d_Pl_plan_88 rfl rfl (pc' := 89) rfl ?_
              have hszz : M52 1 0 = nI n := (hf4 _ _ (by decide) (by decide) (by decide)).trans hT.2.1
              refine xw_aload_n C 2 d_Pl_plan_89 rfl rfl (pc' := 90) rfl ?_
              refine xw_get C u_Tl 1 zr_1 rfl 1 (by decide) k_127 rfl rfl d_Pl_plan_90 (pc' := 93) rfl ?_
              refine xw_topi (y := nI n) hszz ?_
              refine xw_iload C 6 d_Pl_plan_93 rfl (pc' := 95) rfl ?_
              refine xw_iconst C (v := nI 1) d_Pl_plan_95 (by decide) (pc' := 96) rfl ?_
              refine xw_iadd C d_Pl_plan_96 (pc' := 97) rfl ?_
              refine xw_topi (y := nI (u + 1)) (nI_add _ _) ?_
              refine xw_callVi C (c_Pl_missesWindow l D ca ad M52 n (pl_w2 w1 (pl_pk w1 e1 n)) e1 (u + 1) (by omega) hP4 (by omega)) ⟨zg_B C 2 k_415 k_29 k_418 q_Pl_missesWindow ⟨by decide, by decide⟩, C.2.2.2.2.1 _ k_417, C.2.2.2.2.1 _ k_5⟩ 7 zr_7 rfl rfl (fun _ _ _ _ h => h) (fun _ _ _ _ _ _ _ => trivial) rfl rfl (Nat.le_of_ble_eq_true rfl) d_Pl_plan_97 ⟨by decide, by decide⟩ (pc' := 100) rfl (fun r57 M58 hp59 => ?_)
              obtain ⟨hme, hp59⟩ := hp59
              rw [hme]
              clear hme
              rcases hp59 with ⟨hms, rfl⟩ | ⟨hms, rfl⟩
              ·
                refine xw_if_eq C (tgt := 105) d_Pl_plan_100 (by decide) (pc' := 103) rfl (fun h100 => ?_) (fun h100 => ?_)
                ·
                  replace h100 : 1 = 0 := (xp_eq0 (by omega)).mp h100
                  omega
                ·
                  replace h100 : ¬ (1 = 0) := fun hneg => h100 ((xp_eq0 (by omega)).mpr hneg)
                  refine xw_iconst C (v := nI 0) d_Pl_plan_103 (by decide) (pc' := 104) rfl ?_
                  refine xw_zret C hr hlk xp_n0 (F := zW ca ad) M52 rfl ?_ d_Pl_plan_104
                  refine ⟨hf4, Or.inr ⟨fun h9 => h9.2 (u + 1) (by omega) ?_, rfl⟩⟩
                  obtain ⟨t, q1, q2, q3⟩ := hms
                  exact ⟨t, q1, by rw [hsim]; exact q2, by rw [hsim]; exact q3⟩
              ·
                refine xw_if_eq C (tgt := 105) d_Pl_plan_100 (by decide) (pc' := 103) rfl (fun h100 => ?_) (fun h100 => ?_)
                ·
                  replace h100 : 0 = 0 := (xp_eq0 (by omega)).mp h100
                  refine xw_iinc C 6 (v := nI (u + 1)) d_Pl_plan_105 rfl (xp_inc1 _) (by decide) rfl (pc' := 108) rfl ?_
                  refine xw_goto C (tgt := 30) d_Pl_plan_108 (by decide) ?_
                  refine xw_lv [2, 3, 4, 5, 6, 0] rfl ?_
                  refine ih (xs_mx of n + h + h - (u + 1)) (by omega) (u + 1) M52 rfl (by omega) hf4 (by rw [hsim]; exact hP4) (fun x hx => ?_) hw4
                  rcases Nat.lt_or_ge x (u + 1) with d9 | d9
                  · exact hms1 x (by omega)
                  · rw [show x = u + 1 by omega]
                    intro h9
                    obtain ⟨t, q1, q2, q3⟩ := h9
                    rw [hsim] at q2 q3
                    exact hms ⟨t, q1, q2, q3⟩
                ·
                  replace h100 : ¬ (0 = 0) := fun hneg => h100 ((xp_eq0 (by omega)).mpr hneg)
                  omega
            ·
              replace h77 : ¬ (u < (xs_mx of n + h)) := fun hneg => h77 ((nI_ltI (by omega) (by omega)).mpr hneg)
              refine xw_aload_n C 3 d_Pl_plan_80 rfl rfl (pc' := 81) rfl ?_
              refine xw_iload C 6 d_Pl_plan_81 rfl (pc' := 83) rfl ?_
              refine xw_iload_n C 4 d_Pl_plan_83 rfl rfl (pc' := 84) rfl ?_
              refine xw_irem C d_Pl_plan_84 (nI_ne0 (by omega) (by omega)) (pc' := 85) rfl ?_
              refine xw_topi (y := nI (u % h)) (pk_rem (by omega) (by omega) (by omega)) ?_
              have hm84 : u % h < h := Nat.mod_lt _ (by omega)
              refine xw_iload C 0 d_Pl_plan_85 rfl (pc' := 87) rfl ?_
              obtain ⟨M60, hM60⟩ : ∃ z, z = zst M52 13 (u % h) (-1) := ⟨_, rfl⟩
              refine xw_iast C 13 0 zr_13 rfl (u % h) rfl (by omega) (by decide) (ws' := zW ca ad M60) (by rw [hM60]; exact zs_13 _ _) d_Pl_plan_87 (pc' := 88) rfl ?_
              have hP4 : plOK M60 n (pl_w2 w1 (pl_pk w1 e1 n)) e1 := hP3.keep (fun b => by rw [hM60, zst_ap, if_neg (fun h9 => absurd h9.1 (by decide))]) (fun b => by rw [hM60, zst_ap, if_neg (fun h9 => absurd h9.1 (by decide))])
              have hf4 : ∀ a b, a ≠ 8 → a ≠ 9 → a ≠ 13 → M60 a b = M a b := fun a b h1 h2 h3 => by rw [hM60, zst_ap, if_neg (fun h9 => h3 h9.1)]; exact hf3 a b h1 h2 h3
              have hw4 : ∀ x, xs_mx of n + h ≤ x → x < u + 1 → M60 13 (x % h) = oI (pl_who n per wk dl of x) := fun x h1 h2 => by
                rw [hM60, zst_ap]
                by_cases d9 : x = u
                · subst d9; rw [if_pos ⟨rfl, rfl⟩, hwho, hk]; rfl
                · rw [if_neg (fun h9 : 13 = 13 ∧ x % h = u % h => d9 (xp_modinj (a := xs_mx of n + h) (by omega) (by omega) (by omega) h9.2)), ho3]; exact hw1s x h1 (by omega)
              refine xw_aload_n C 1 d_Pl_plan_88 rfl rfl (pc' := 89) rfl ?_
              have hszz : M60 1 0 = nI n := (hf4 _ _ (by decide) (by decide) (by decide)).trans hT.2.1
              refine xw_aload_n C 2 d_Pl_plan_89 rfl rfl (pc' := 90) rfl ?_
              refine xw_get C u_Tl 1 zr_1 rfl 1 (by decide) k_127 rfl rfl d_Pl_plan_90 (pc' := 93) rfl ?_
              refine xw_topi (y := nI n) hszz ?_
              refine xw_iload C 6 d_Pl_plan_93 rfl (pc' := 95) rfl ?_
              refine xw_iconst C (v := nI 1) d_Pl_plan_95 (by decide) (pc' := 96) rfl ?_
              refine xw_iadd C d_Pl_plan_96 (pc' := 97) rfl ?_
              refine xw_topi (y := nI (u + 1)) (nI_add _ _) ?_
              refine xw_callVi C (c_Pl_missesWindow l D ca ad M60 n (pl_w2 w1 (pl_pk w1 e1 n)) e1 (u + 1) (by omega) hP4 (by omega)) ⟨zg_B C 2 k_415 k_29 k_418 q_Pl_missesWindow ⟨by decide, by decide⟩, C.2.2.2.2.1 _ k_417, C.2.2.2.2.1 _ k_5⟩ 7 zr_7 rfl rfl (fun _ _ _ _ h => h) (fun _ _ _ _ _ _ _ => trivial) rfl rfl (Nat.le_of_ble_eq_true rfl) d_Pl_plan_97 ⟨by decide, by decide⟩ (pc' := 100) rfl (fun r61 M62 hp63 => ?_)
              obtain ⟨hme, hp63⟩ := hp63
              rw [hme]
              clear hme
              rcases hp63 with ⟨hms, rfl⟩ | ⟨hms, rfl⟩
              ·
                refine xw_if_eq C (tgt := 105) d_Pl_plan_100 (by decide) (pc' := 103) rfl (fun h100 => ?_) (fun h100 => ?_)
                ·
                  replace h100 : 1 = 0 := (xp_eq0 (by omega)).mp h100
                  omega
                ·
                  replace h100 : ¬ (1 = 0) := fun hneg => h100 ((xp_eq0 (by omega)).mpr hneg)
                  refine xw_iconst C (v := nI 0) d_Pl_plan_103 (by decide) (pc' := 104) rfl ?_
                  refine xw_zret C hr hlk xp_n0 (F := zW ca ad) M60 rfl ?_ d_Pl_plan_104
                  refine ⟨hf4, Or.inr ⟨fun h9 => h9.2 (u + 1) (by omega) ?_, rfl⟩⟩
                  obtain ⟨t, q1, q2, q3⟩ := hms
                  exact ⟨t, q1, by rw [hsim]; exact q2, by rw [hsim]; exact q3⟩
              ·
                refine xw_if_eq C (tgt := 105) d_Pl_plan_100 (by decide) (pc' := 103) rfl (fun h100 => ?_) (fun h100 => ?_)
                ·
                  replace h100 : 0 = 0 := (xp_eq0 (by omega)).mp h100
                  refine xw_iinc C 6 (v := nI (u + 1)) d_Pl_plan_105 rfl (xp_inc1 _) (by decide) rfl (pc' := 108) rfl ?_
                  refine xw_goto C (tgt := 30) d_Pl_plan_108 (by decide) ?_
                  refine xw_lv [2, 3, 4, 5, 6, 0] rfl ?_
                  refine ih (xs_mx of n + h + h - (u + 1)) (by omega) (u + 1) M60 rfl (by omega) hf4 (by rw [hsim]; exact hP4) (fun x hx => ?_) hw4
                  rcases Nat.lt_or_ge x (u + 1) with d9 | d9
                  · exact hms1 x (by omega)
                  · rw [show x = u + 1 by omega]
                    intro h9
                    obtain ⟨t, q1, q2, q3⟩ := h9
                    rw [hsim] at q2 q3
                    exact hms ⟨t, q1, q2, q3⟩
                ·
                  replace h100 : ¬ (0 = 0) := fun hneg => h100 ((xp_eq0 (by omega)).mpr hneg)
                  omega
          ·
            exact absurd rfl h59
        ·
          refine xw_topi (y := nI b) rfl ?_
          have hkb := pl_pk_lt hk
          have hPb := hP2 b (by omega)
          refine xw_istore C d_Pl_plan_54 (by decide) rfl (pc' := 56) rfl ?_
          refine xw_iload C 0 d_Pl_plan_56 rfl (pc' := 58) rfl ?_
          refine xw_iconst C (v := (-1)) d_Pl_plan_58 (by decide) (pc' := 59) rfl ?_
          refine xw_icmp_eq C (tgt := 73) d_Pl_plan_59 (by decide) (pc' := 62) rfl (fun h59 => ?_) (fun h59 => ?_)
          ·
            exact absurd h59 (xp_nem1 (by omega))
          ·
            refine xw_aload_n C 1 d_Pl_plan_62 rfl rfl (pc' := 63) rfl ?_
            refine xw_get C u_Pl 7 zr_7 rfl 0 (by decide) k_160 rfl rfl d_Pl_plan_63 (pc' := 66) rfl ?_
            refine xw_iload C 0 d_Pl_plan_66 rfl (pc' := 68) rfl ?_
            refine xw_dup2_11 C d_Pl_plan_68 rfl rfl (pc' := 69) rfl ?_
            refine xw_iald C 8 0 zr_8 rfl b rfl (by omega) (by decide) d_Pl_plan_69 (pc' := 70) rfl ?_
            refine xw_topi (y := nI (w1 b)) hPb.1 ?_
            refine xw_iconst C (v := nI 1) d_Pl_plan_70 (by decide) (pc' := 71) rfl ?_
            refine xw_isub C d_Pl_plan_71 (pc' := 72) rfl ?_
            refine xw_topi (y := nI ((w1 b) - 1)) (pk_sub (by omega)) ?_
            obtain ⟨M64, hM64⟩ : ∃ z, z = zst M52 8 b (nI ((w1 b) - 1)) := ⟨_, rfl⟩
            refine xw_iast C 8 0 zr_8 rfl b rfl (by omega) (by decide) (ws' := zW ca ad M64) (by rw [hM64]; exact zs_8 _ _) d_Pl_plan_72 (pc' := 73) rfl ?_
            have hP3 : plOK M64 n (pl_w2 w1 (pl_pk w1 e1 n)) e1 := by rw [hk]; exact hP2.dec hM64
            have hf3 : ∀ a b, a ≠ 8 → a ≠ 9 → a ≠ 13 → M64 a b = M a b := fun a b h1 h2 h3 => by rw [hM64, zst_ap, if_neg (fun h9 => h1 h9.1)]; exact hf2 a b h1 h2 h3
            have ho3 : ∀ b, M64 13 b = M1 13 b := fun b => by rw [hM64, zst_ap, if_neg (fun h9 => absurd h9.1 (by decide))]; exact hr1 _ _ (by decide) (by decide)
            refine xw_iload C 6 d_Pl_plan_73 rfl (pc' := 75) rfl ?_
            refine xw_iload C 5 d_Pl_plan_75 rfl (pc' := 77) rfl ?_
            refine xw_icmp_lt C (tgt := 88) d_Pl_plan_77 (by decide) (pc' := 80) rfl (fun h77 => ?_) (fun h77 => ?_)
            ·
              replace h77 : u < (xs_mx of n + h) := (nI_ltI (by omega) (by omega)).mp h77
              have hP4 := hP3
              have hf4 := hf3
              have hw4 : ∀ x, xs_mx of n + h ≤ x → x < u + 1 → M64 13 (x % h) = oI (pl_who n per wk dl of x) := fun x h1 h2 => by omega
              refine xw_aload_n C 1 d_Pl_plan_88 rfl rfl (pc' := 89) rfl ?_
              have hszz : M64 1 0 = nI n := (hf4 _ _ (by decide) (by decide) (by decide)).trans hT.2.1
              refine xw_aload_n C 2 d_Pl_plan_89 rfl rfl (pc' := 90) rfl ?_
              refine xw_get C u_Tl 1 zr_1 rfl 1 (by decide) k_127 rfl rfl d_Pl_plan_90 (pc' := 93) rfl ?_
              refine xw_topi (y := nI n) hszz ?_
              refine xw_iload C 6 d_Pl_plan_93 rfl (pc' := 95) rfl ?_
              refine xw_iconst C (v := nI 1) d_Pl_plan_95 (by decide) (pc' := 96) rfl ?_
              refine xw_iadd C d_Pl_plan_96 (pc' := 97) rfl ?_
              refine xw_topi (y := nI (u + 1)) (nI_add _ _) ?_
              refine xw_callVi C (c_Pl_missesWindow l D ca ad M64 n (pl_w2 w1 (pl_pk w1 e1 n)) e1 (u + 1) (by omega) hP4 (by omega)) ⟨zg_B C 2 k_415 k_29 k_418 q_Pl_missesWindow ⟨by decide, by decide⟩, C.2.2.2.2.1 _ k_417, C.2.2.2.2.1 _ k_5⟩ 7 zr_7 rfl rfl (fun _ _ _ _ h => h) (fun _ _ _ _ _ _ _ => trivial) rfl rfl (Nat.le_of_ble_eq_true rfl) d_Pl_plan_97 ⟨by decide, by decide⟩ (pc' := 100) rfl (fun r65 M66 hp67 => ?_)
              obtain ⟨hme, hp67⟩ := hp67
              rw [hme]
              clear hme
              rcases hp67 with ⟨hms, rfl⟩ | ⟨hms, rfl⟩
              ·
                refine xw_if_eq C (tgt := 105) d_Pl_plan_100 (by decide) (pc' := 103) rfl (fun h100 => ?_) (fun h100 => ?_)
                ·
                  replace h100 : 1 = 0 := (xp_eq0 (by omega)).mp h100
                  omega
                ·
                  replace h100 : ¬ (1 = 0) := fun hneg => h100 ((xp_eq0 (by omega)).mpr hneg)
                  refine xw_iconst C (v := nI 0) d_Pl_plan_103 (by decide) (pc' := 104) rfl ?_
                  refine xw_zret C hr hlk xp_n0 (F := zW ca ad) M64 rfl ?_ d_Pl_plan_104
                  refine ⟨hf4, Or.inr ⟨fun h9 => h9.2 (u + 1) (by omega) ?_, rfl⟩⟩
                  obtain ⟨t, q1, q2, q3⟩ := hms
                  exact ⟨t, q1, by rw [hsim]; exact q2, by rw [hsim]; exact q3⟩
              ·
                refine xw_if_eq C (tgt := 105) d_Pl_plan_100 (by decide) (pc' := 103) rfl (fun h100 => ?_) (fun h100 => ?_)
                ·
                  replace h100 : 0 = 0 := (xp_eq0 (by omega)).mp h100
                  refine xw_iinc C 6 (v := nI (u + 1)) d_Pl_plan_105 rfl (xp_inc1 _) (by decide) rfl (pc' := 108) rfl ?_
                  refine xw_goto C (tgt := 30) d_Pl_plan_108 (by decide) ?_
                  refine xw_lv [2, 3, 4, 5, 6, 0] rfl ?_
                  refine ih (xs_mx of n + h + h - (u + 1)) (by omega) (u + 1) M64 rfl (by omega) hf4 (by rw [hsim]; exact hP4) (fun x hx => ?_) hw4
                  rcases Nat.lt_or_ge x (u + 1) with d9 | d9
                  · exact hms1 x (by omega)
                  · rw [show x = u + 1 by omega]
                    intro h9
                    obtain ⟨t, q1, q2, q3⟩ := h9
                    rw [hsim] at q2 q3
                    exact hms ⟨t, q1, q2, q3⟩
                ·
                  replace h100 : ¬ (0 = 0) := fun hneg => h100 ((xp_eq0 (by omega)).mpr hneg)
                  omega
            ·
              replace h77 : ¬ (u < (xs_mx of n + h)) := fun hneg => h77 ((nI_ltI (by omega) (by omega)).mpr hneg)
              refine xw_aload_n C 3 d_Pl_plan_80 rfl rfl (pc' := 81) rfl ?_
              refine xw_iload C 6 d_Pl_plan_81 rfl (pc' := 83) rfl ?_
              refine xw_iload_n C 4 d_Pl_plan_83 rfl rfl (pc' := 84) rfl ?_
              refine xw_irem C d_Pl_plan_84 (nI_ne0 (by omega) (by omega)) (pc' := 85) rfl ?_
              refine xw_topi (y := nI (u % h)) (pk_rem (by omega) (by omega) (by omega)) ?_
              have hm84 : u % h < h := Nat.mod_lt _ (by omega)
              refine xw_iload C 0 d_Pl_plan_85 rfl (pc' := 87) rfl ?_
              obtain ⟨M68, hM68⟩ : ∃ z, z = zst M64 13 (u % h) (nI b) := ⟨_, rfl⟩
              refine xw_iast C 13 0 zr_13 rfl (u % h) rfl (by omega) (by decide) (ws' := zW ca ad M68) (by rw [hM68]; exact zs_13 _ _) d_Pl_plan_87 (pc' := 88) rfl ?_
              have hP4 : plOK M68 n (pl_w2 w1 (pl_pk w1 e1 n)) e1 := hP3.keep (fun b => by rw [hM68, zst_ap, if_neg (fun h9 => absurd h9.1 (by decide))]) (fun b => by rw [hM68, zst_ap, if_neg (fun h9 => absurd h9.1 (by decide))])
              have hf4 : ∀ a b, a ≠ 8 → a ≠ 9 → a ≠ 13 → M68 a b = M a b := fun a b h1 h2 h3 => by rw [hM68, zst_ap, if_neg (fun h9 => h3 h9.1)]; exact hf3 a b h1 h2 h3
              have hw4 : ∀ x, xs_mx of n + h ≤ x → x < u + 1 → M68 13 (x % h) = oI (pl_who n per wk dl of x) := fun x h1 h2 => by
                rw [hM68, zst_ap]
                by_cases d9 : x = u
                · subst d9; rw [if_pos ⟨rfl, rfl⟩, hwho, hk]; rfl
                · rw [if_neg (fun h9 : 13 = 13 ∧ x % h = u % h => d9 (xp_modinj (a := xs_mx of n + h) (by omega) (by omega) (by omega) h9.2)), ho3]; exact hw1s x h1 (by omega)
              refine xw_aload_n C 1 d_Pl_plan_88 rfl rfl (pc' := 89) rfl ?_
              have hszz : M68 1 0 = nI n := (hf4 _ _ (by decide) (by decide) (by decide)).trans hT.2.1
              refine xw_aload_n C 2 d_Pl_plan_89 rfl rfl (pc' := 90) rfl ?_
              refine xw_get C u_Tl 1 zr_1 rfl 1 (by decide) k_127 rfl rfl d_Pl_plan_90 (pc' := 93) rfl ?_
              refine xw_topi (y := nI n) hszz ?_
              refine xw_iload C 6 d_Pl_plan_93 rfl (pc' := 95) rfl ?_
              refine xw_iconst C (v := nI 1) d_Pl_plan_95 (by decide) (pc' := 96) rfl ?_
              refine xw_iadd C d_Pl_plan_96 (pc' := 97) rfl ?_
              refine xw_topi (y := nI (u + 1)) (nI_add _ _) ?_
              refine xw_callVi C (c_Pl_missesWindow l D ca ad M68 n (pl_w2 w1 (pl_pk w1 e1 n)) e1 (u + 1) (by omega) hP4 (by omega)) ⟨zg_B C 2 k_415 k_29 k_418 q_Pl_missesWindow ⟨by decide, by decide⟩, C.2.2.2.2.1 _ k_417, C.2.2.2.2.1 _ k_5⟩ 7 zr_7 rfl rfl (fun _ _ _ _ h => h) (fun _ _ _ _ _ _ _ => trivial) rfl rfl (Nat.le_of_ble_eq_true rfl) d_Pl_plan_97 ⟨by decide, by decide⟩ (pc' := 100) rfl (fun r69 M70 hp71 => ?_)
              obtain ⟨hme, hp71⟩ := hp71
              rw [hme]
              clear hme
              rcases hp71 with ⟨hms, rfl⟩ | ⟨hms, rfl⟩
              ·
                refine xw_if_eq C (tgt := 105) d_Pl_plan_100 (by decide) (pc' := 103) rfl (fun h100 => ?_) (fun h100 => ?_)
                ·
                  replace h100 : 1 = 0 := (xp_eq0 (by omega)).mp h100
                  omega
                ·
                  replace h100 : ¬ (1 = 0) := fun hneg => h100 ((xp_eq0 (by omega)).mpr hneg)
                  refine xw_iconst C (v := nI 0) d_Pl_plan_103 (by decide) (pc' := 104) rfl ?_
                  refine xw_zret C hr hlk xp_n0 (F := zW ca ad) M68 rfl ?_ d_Pl_plan_104
                  refine ⟨hf4, Or.inr ⟨fun h9 => h9.2 (u + 1) (by omega) ?_, rfl⟩⟩
                  obtain ⟨t, q1, q2, q3⟩ := hms
                  exact ⟨t, q1, by rw [hsim]; exact q2, by rw [hsim]; exact q3⟩
              ·
                refine xw_if_eq C (tgt := 105) d_Pl_plan_100 (by decide) (pc' := 103) rfl (fun h100 => ?_) (fun h100 => ?_)
                ·
                  replace h100 : 0 = 0 := (xp_eq0 (by omega)).mp h100
                  refine xw_iinc C 6 (v := nI (u + 1)) d_Pl_plan_105 rfl (xp_inc1 _) (by decide) rfl (pc' := 108) rfl ?_
                  refine xw_goto C (tgt := 30) d_Pl_plan_108 (by decide) ?_
                  refine xw_lv [2, 3, 4, 5, 6, 0] rfl ?_
                  refine ih (xs_mx of n + h + h - (u + 1)) (by omega) (u + 1) M68 rfl (by omega) hf4 (by rw [hsim]; exact hP4) (fun x hx => ?_) hw4
                  rcases Nat.lt_or_ge x (u + 1) with d9 | d9
                  · exact hms1 x (by omega)
                  · rw [show x = u + 1 by omega]
                    intro h9
                    obtain ⟨t, q1, q2, q3⟩ := h9
                    rw [hsim] at q2 q3
                    exact hms ⟨t, q1, q2, q3⟩
                ·
                  replace h100 : ¬ (0 = 0) := fun hneg => h100 ((xp_eq0 (by omega)).mpr hneg)
                  omega
  refine xw_lvE (lv' := [(0, .ref (ad 7)), (1, .ref (ad 1)), (2, .ref (ad 13)), (3, .int (nI h))]) rfl ?_
  refine xw_aload_n C 1 d_Pl_plan_0 rfl rfl (pc' := 1) rfl ?_
  refine xw_iload_n C 3 d_Pl_plan_1 rfl rfl (pc' := 2) rfl ?_
  refine xw_callVi C (c_Tl_workInRound l D ca ad M n per wk dl of h hT (by omega)) ⟨zg_B C 1 k_391 k_25 k_394 q_Tl_workInRound ⟨by decide, by decide⟩, C.2.2.2.2.1 _ k_392, C.2.2.2.2.1 _ k_393⟩ 1 zr_1 rfl rfl (fun _ _ _ _ h => h) (fun _ _ _ _ _ _ _ => trivial) rfl rfl (Nat.le_of_ble_eq_true rfl) d_Pl_plan_2 ⟨by decide, by decide⟩ (pc' := 5) rfl (fun r1 M2 hp3 => ?_)
  obtain ⟨hme, hre⟩ := hp3
  rw [hme, hre]
  clear hme hre
  refine xw_iload_n C 3 d_Pl_plan_5 rfl rfl (pc' := 6) rfl ?_
  refine xw_icmp_le C (tgt := 11) d_Pl_plan_6 (by decide) (pc' := 9) rfl (fun h6 => ?_) (fun h6 => ?_)
  ·
    replace h6 : (xs_sm (fun t => wk t * (h / per t)) n) ≤ h := (nI_leI (by omega) (by omega)).mp h6
    refine xw_aload_n C 0 d_Pl_plan_11 rfl rfl (pc' := 12) rfl ?_
    refine xw_get C u_Pl 7 zr_7 rfl 0 (by decide) k_160 rfl rfl d_Pl_plan_12 (pc' := 15) rfl ?_
    refine xw_iconst C (v := nI 0) d_Pl_plan_15 (by decide) (pc' := 16) rfl ?_
    refine xw_callSv C (c_Ar_fill l D ca ad M 8 6 (nI 0) (by decide) (fun _ => rfl) (by decide)) ⟨zg_B C 2 k_395 k_38 k_365 q_Ar_fill ⟨by decide, by decide⟩, C.2.2.2.2.1 _ k_364⟩ (fun _ _ _ _ h => h) (fun _ _ _ _ _ _ _ => trivial) rfl rfl (Nat.le_of_ble_eq_true rfl) d_Pl_plan_16 ⟨by decide, by decide⟩ (pc' := 19) rfl (fun M5 hp6 => ?_)
    have hM5 := hp6
    
    refine xw_aload_n C 1 d_Pl_plan_19 rfl rfl (pc' := 20) rfl ?_
    have hT0 : tkOK M5 n per wk dl of := hT.keep (by rw [hM5, zfl_ap, if_neg (fun h9 => absurd h9.1 (by decide))]) (fun t j ht => by rw [hM5, zfl_ap, if_neg (fun h9 => absurd h9.1 (by omega))])
    refine xw_callVi C (c_Tl_greatestOffset l D ca ad M5 n per wk dl of hT0) ⟨zg_B C 0 k_396 k_25 k_399 q_Tl_greatestOffset ⟨by decide, by decide⟩, C.2.2.2.2.1 _ k_397, C.2.2.2.2.1 _ k_398⟩ 1 zr_1 rfl rfl (fun _ _ _ _ h => h) (fun _ _ _ _ _ _ _ => trivial) rfl rfl (Nat.le_of_ble_eq_true rfl) d_Pl_plan_20 ⟨by decide, by decide⟩ (pc' := 23) rfl (fun r7 M8 hp9 => ?_)
    obtain ⟨hme, hre⟩ := hp9
    rw [hme, hre]
    clear hme hre
    refine xw_iload_n C 3 d_Pl_plan_23 rfl rfl (pc' := 24) rfl ?_
    refine xw_iadd C d_Pl_plan_24 (pc' := 25) rfl ?_
    refine xw_topi (y := nI ((xs_mx of n) + h)) (nI_add _ _) ?_
    refine xw_istore C d_Pl_plan_25 (by decide) rfl (pc' := 27) rfl ?_
    refine xw_iconst C (v := nI 0) d_Pl_plan_27 (by decide) (pc' := 28) rfl ?_
    refine xw_istore C d_Pl_plan_28 (by decide) rfl (pc' := 30) rfl ?_
    refine xw_lv [2, 3, 4, 5, 1, 0] rfl ?_
    refine loop1 (by omega) _ 0 M5 rfl (by omega) (fun a b h1 h2 h3 => by rw [hM5, zfl_ap, if_neg (fun h9 => h1 h9.1)]) (fun t ht => ⟨by rw [hM5, zfl_ap, if_pos ⟨rfl, by omega⟩]; rfl, fun h9 => absurd h9 (Nat.lt_irrefl 0), by show (0 : Nat) < _; omega, by show (0 : Nat) < _; omega⟩) (fun x hx => by rw [show x = 0 by omega]; exact pl_miss0) (fun x h1 h2 => by omega)
  ·
    replace h6 : ¬ ((xs_sm (fun t => wk t * (h / per t)) n) ≤ h) := fun hneg => h6 ((nI_leI (by omega) (by omega)).mpr hneg)
    refine xw_iconst C (v := nI 0) d_Pl_plan_9 (by decide) (pc' := 10) rfl ?_
    refine xw_zret C hr hlk xp_n0 (F := zW ca ad) M rfl ?_ d_Pl_plan_10
    exact ⟨fun _ _ _ _ _ => rfl, Or.inr ⟨fun h9 => by have := h9.1; omega, rfl⟩⟩
end
section
/-- the slots out of the first x ticks' owners, the newest first: start, length, task -/
def bs (g : Nat → Option Nat) : Nat → List (Nat × Nat × Nat)
  | 0 => []
  | x + 1 => match g x with
    | none => bs g x
    | some t => if 0 < x ∧ g (x - 1) = some t then (match bs g x with
      | [] => []
      | q :: r => (q.1, q.2.1 + 1, q.2.2) :: r) else (x, 1, t) :: bs g x
theorem bs_none {g : Nat → Option Nat} {x : Nat} (h : g x = none) : bs g (x + 1) = bs g x := by
  show (match g x with
    | none => bs g x
    | some t => _) = bs g x
  rw [h]
theorem bs_ext {g : Nat → Option Nat} {x t : Nat} {q : Nat × Nat × Nat} {r : List (Nat × Nat × Nat)} (h : g x = some t) (h0 : 0 < x) (h1 : g (x - 1) = some t) (hr : bs g x = q :: r) : bs g (x + 1) = (q.1, q.2.1 + 1, q.2.2) :: r := by
  unfold bs
  rw [h]
  dsimp only
  rw [if_pos ⟨h0, h1⟩, hr]
theorem bs_new {g : Nat → Option Nat} {x t : Nat} (h : g x = some t) (h1 : ¬ (0 < x ∧ g (x - 1) = some t)) : bs g (x + 1) = (x, 1, t) :: bs g x := by
  show (match g x with
    | none => bs g x
    | some t => _) = _
  rw [h]
  dsimp only
  rw [if_neg h1]
theorem bs_ne {g : Nat → Option Nat} {x t : Nat} (h : g x = some t) : bs g (x + 1) ≠ [] := by
  induction x generalizing t with
  | zero => rw [bs_new h (fun h9 => absurd h9.1 (Nat.lt_irrefl 0))]; exact List.cons_ne_nil _ _
  | succ x ih =>
    by_cases c : 0 < x + 1 ∧ g (x + 1 - 1) = some t
    · rcases hq : bs g (x + 1) with _ | ⟨q, r⟩
      · exact absurd hq (ih c.2)
      · rw [bs_ext h c.1 c.2 hq]; exact List.cons_ne_nil _ _
    · rw [bs_new h c]; exact List.cons_ne_nil _ _
theorem bs_len1 {g : Nat → Option Nat} {x : Nat} : (bs g x).length ≤ (bs g (x + 1)).length := by
  rcases hg : g x with _ | t
  · rw [bs_none hg]; exact Nat.le_refl _
  · by_cases c : 0 < x ∧ g (x - 1) = some t
    · rcases hq : bs g x with _ | ⟨q, r⟩
      · exact Nat.zero_le _
      · rw [bs_ext hg c.1 c.2 hq]; exact Nat.le_refl _
    · rw [bs_new hg c]; exact Nat.le_succ _
theorem bs_mono {g : Nat → Option Nat} {x y : Nat} (h : x ≤ y) : (bs g x).length ≤ (bs g y).length := by
  induction y with
  | zero => rw [show x = 0 by omega]; exact Nat.le_refl _
  | succ y ih =>
    rcases Nat.lt_or_ge x (y + 1) with c | c
    · exact Nat.le_trans (ih (by omega)) bs_len1
    · rw [show x = y + 1 by omega]; exact Nat.le_refl _
/-- three rows hold the slots -/
def bsR (M : Nat → Nat → Int32) (k4 k5 k6 : Nat) : List (Nat × Nat × Nat) → Prop
  | [] => True
  | q :: r => M k4 r.length = nI q.1 ∧ M k5 r.length = nI q.2.1 ∧ M k6 r.length = nI q.2.2 ∧ bsR M k4 k5 k6 r
theorem bsR.keep {M M1 : Nat → Nat → Int32} {k4 k5 k6 : Nat} {L : List (Nat × Nat × Nat)} (h : bsR M k4 k5 k6 L) (h1 : ∀ j, j < L.length → M1 k4 j = M k4 j ∧ M1 k5 j = M k5 j ∧ M1 k6 j = M k6 j) : bsR M1 k4 k5 k6 L := by
  induction L with
  | nil => trivial
  | cons q r ih =>
    obtain ⟨a, b, c, d⟩ := h
    have e := h1 r.length (Nat.lt_succ_self _)
    exact ⟨e.1.trans a, e.2.1.trans b, e.2.2.trans c, ih d (fun j hj => h1 j (Nat.lt_succ_of_lt hj))⟩
def zPut (M : Nat → Nat → Int32) (i k : Nat) (a b c : Int32) : Nat → Nat → Int32 := if i = k then zst (zst (zst (zst M 4 i a) 5 i b) 6 i c) 3 0 (nI (k + 1)) else zst (zst (zst M 4 i a) 5 i b) 6 i c

set_option maxHeartbeats 4000000 in
set_option maxRecDepth 100000 in
/-- part -/
theorem c_Tb_part (l : Launch) (D : va_G) (ca : Nat → ClassId) (ad : Nat → Nat) (M : Nat → Nat → Int32) (i w : Nat) (hi : i < 60) (hw : w < 3) : xw_Mi l y_Tb_part (.code y_Tb_part b_Tb_part 3 (some .int) :: zG) { frames := 0, cells := 0, slots := 0, locals := 0 } D zCl (zT ca) [.ref (ad 3), .int (nI i), .int (nI w)] (zW ca ad M) (fun _ => True) 0 0 (zW ca ad) (fun r M' => M' = M ∧ r = if w = 0 then M 4 i else if w = 1 then M 5 i else M 6 i) := by
  intro sz
  refine xw_met (cc := b_Tb_part) (maxL := 3) (ret := (some .int)) (by decide) rfl (Nat.le_of_ble_eq_true rfl) (fun p e s m args below meth c hr hlk hnm hsz hKs C => ?_)
  refine xw_lvE (lv' := [(0, .ref (ad 3)), (1, .int (nI i)), (2, .int (nI w))]) rfl ?_
  refine xw_iload_n C 2 d_Tb_part_0 rfl rfl (pc' := 1) rfl ?_
  rcases (show w = 0 ∨ w = 1 ∨ w = 2 by omega) with rfl | rfl | rfl
  ·
    refine xw_lookup C (off := 27) (tgt := 28) d_Tb_part_1 (by decide) (by decide) (by decide) ?_
    refine xw_aload_n C 0 d_Tb_part_28 rfl rfl (pc' := 29) rfl ?_
    refine xw_get C u_Tb 3 zr_3 rfl 0 (by decide) k_140 rfl rfl d_Tb_part_29 (pc' := 32) rfl ?_
    refine xw_iload_n C 1 d_Tb_part_32 rfl rfl (pc' := 33) rfl ?_
    refine xw_iald C 4 0 zr_4 rfl i rfl (by omega) (by decide) d_Tb_part_33 (pc' := 34) rfl ?_
    refine xw_iret C hr hlk (F := zW ca ad) M rfl ?_ d_Tb_part_34
    exact ⟨rfl, rfl⟩
  ·
    refine xw_lookup C (off := 34) (tgt := 35) d_Tb_part_1 (by decide) (by decide) (by decide) ?_
    refine xw_aload_n C 0 d_Tb_part_35 rfl rfl (pc' := 36) rfl ?_
    refine xw_get C u_Tb 3 zr_3 rfl 1 (by decide) k_141 rfl rfl d_Tb_part_36 (pc' := 39) rfl ?_
    refine xw_iload_n C 1 d_Tb_part_39 rfl rfl (pc' := 40) rfl ?_
    refine xw_iald C 5 0 zr_5 rfl i rfl (by omega) (by decide) d_Tb_part_40 (pc' := 41) rfl ?_
    refine xw_iret C hr hlk (F := zW ca ad) M rfl ?_ d_Tb_part_41
    exact ⟨rfl, rfl⟩
  ·
    refine xw_lookup C (off := 41) (tgt := 42) d_Tb_part_1 (by decide) (by decide) (by decide) ?_
    refine xw_aload_n C 0 d_Tb_part_42 rfl rfl (pc' := 43) rfl ?_
    refine xw_get C u_Tb 3 zr_3 rfl 2 (by decide) k_142 rfl rfl d_Tb_part_43 (pc' := 46) rfl ?_
    refine xw_iload_n C 1 d_Tb_part_46 rfl rfl (pc' := 47) rfl ?_
    refine xw_iald C 6 0 zr_6 rfl i rfl (by omega) (by decide) d_Tb_part_47 (pc' := 48) rfl ?_
    refine xw_iret C hr hlk (F := zW ca ad) M rfl ?_ d_Tb_part_48
    exact ⟨rfl, rfl⟩

set_option maxHeartbeats 4000000 in
set_option maxRecDepth 100000 in
/-- put -/
theorem c_Tb_put (l : Launch) (D : va_G) (ca : Nat → ClassId) (ad : Nat → Nat) (M : Nat → Nat → Int32) (i k : Nat) (x y z : Int32) (hi : i < 60) (hk : k ≤ 60) (hz : M 3 0 = nI k) : xw_Mv l y_Tb_put (.code y_Tb_put b_Tb_put 5 none :: zG) { frames := 0, cells := 0, slots := 0, locals := 0 } D zCl (zT ca) [.ref (ad 3), .int (nI i), .int x, .int y, .int z] (zW ca ad M) (fun _ => True) 0 0 (zW ca ad) (fun M' => M' = zPut M i k x y z) := by
  intro sz
  refine xw_met (cc := b_Tb_put) (maxL := 5) (ret := none) (by decide) rfl (Nat.le_of_ble_eq_true rfl) (fun p e s m args below meth c hr hlk hnm hsz hKs C => ?_)
  refine xw_lvE (lv' := [(0, .ref (ad 3)), (1, .int (nI i)), (2, .int x), (3, .int y), (4, .int z)]) rfl ?_
  refine xw_aload_n C 0 d_Tb_put_0 rfl rfl (pc' := 1) rfl ?_
  refine xw_get C u_Tb 3 zr_3 rfl 0 (by decide) k_140 rfl rfl d_Tb_put_1 (pc' := 4) rfl ?_
  refine xw_iload_n C 1 d_Tb_put_4 rfl rfl (pc' := 5) rfl ?_
  refine xw_iload_n C 2 d_Tb_put_5 rfl rfl (pc' := 6) rfl ?_
  obtain ⟨M1, hM1⟩ : ∃ zq, zq = zst M 4 i x := ⟨_, rfl⟩
  refine xw_iast C 4 0 zr_4 rfl i rfl (by omega) (by decide) (ws' := zW ca ad M1) (by rw [hM1]; exact zs_4 _ _) d_Tb_put_6 (pc' := 7) rfl ?_
  refine xw_aload_n C 0 d_Tb_put_7 rfl rfl (pc' := 8) rfl ?_
  refine xw_get C u_Tb 3 zr_3 rfl 1 (by decide) k_141 rfl rfl d_Tb_put_8 (pc' := 11) rfl ?_
  refine xw_iload_n C 1 d_Tb_put_11 rfl rfl (pc' := 12) rfl ?_
  refine xw_iload_n C 3 d_Tb_put_12 rfl rfl (pc' := 13) rfl ?_
  obtain ⟨M2, hM2⟩ : ∃ zq, zq = zst M1 5 i y := ⟨_, rfl⟩
  refine xw_iast C 5 0 zr_5 rfl i rfl (by omega) (by decide) (ws' := zW ca ad M2) (by rw [hM2]; exact zs_5 _ _) d_Tb_put_13 (pc' := 14) rfl ?_
  refine xw_aload_n C 0 d_Tb_put_14 rfl rfl (pc' := 15) rfl ?_
  refine xw_get C u_Tb 3 zr_3 rfl 2 (by decide) k_142 rfl rfl d_Tb_put_15 (pc' := 18) rfl ?_
  refine xw_iload_n C 1 d_Tb_put_18 rfl rfl (pc' := 19) rfl ?_
  refine xw_iload C 4 d_Tb_put_19 rfl (pc' := 21) rfl ?_
  obtain ⟨M3, hM3⟩ : ∃ zq, zq = zst M2 6 i z := ⟨_, rfl⟩
  refine xw_iast C 6 0 zr_6 rfl i rfl (by omega) (by decide) (ws' := zW ca ad M3) (by rw [hM3]; exact zs_6 _ _) d_Tb_put_21 (pc' := 22) rfl ?_
  refine xw_iload_n C 1 d_Tb_put_22 rfl rfl (pc' := 23) rfl ?_
  have hz3 : M3 3 0 = nI k := by rw [hM3, hM2, hM1, zst_ap, if_neg (fun h9 => absurd h9.1 (by decide)), zst_ap, if_neg (fun h9 => absurd h9.1 (by decide)), zst_ap, if_neg (fun h9 => absurd h9.1 (by decide))]; exact hz
  refine xw_aload_n C 0 d_Tb_put_23 rfl rfl (pc' := 24) rfl ?_
  refine xw_get C u_Tb 3 zr_3 rfl 3 (by decide) k_143 rfl rfl d_Tb_put_24 (pc' := 27) rfl ?_
  refine xw_topi (y := nI k) hz3 ?_
  refine xw_icmp_ne C (tgt := 40) d_Tb_put_27 (by decide) (pc' := 30) rfl (fun h27 => ?_) (fun h27 => ?_)
  ·
    replace h27 : ¬ (i = k) := fun hneg => h27 ((nI_eq (by omega) (by omega)).mpr hneg)
    refine xw_vret C hr hlk (F := zW ca ad) M3 rfl ?_ d_Tb_put_40
    rw [hM3, hM2, hM1]; exact (if_neg h27).symm
  ·
    replace h27 : i = k := (nI_eq (by omega) (by omega)).mp h27
    refine xw_aload_n C 0 d_Tb_put_30 rfl rfl (pc' := 31) rfl ?_
    refine xw_dup C d_Tb_put_31 rfl (pc' := 32) rfl ?_
    refine xw_get C u_Tb 3 zr_3 rfl 3 (by decide) k_143 rfl rfl d_Tb_put_32 (pc' := 35) rfl ?_
    refine xw_topi (y := nI k) hz3 ?_
    refine xw_iconst C (v := nI 1) d_Tb_put_35 (by decide) (pc' := 36) rfl ?_
    refine xw_iadd C d_Tb_put_36 (pc' := 37) rfl ?_
    refine xw_topi (y := nI (k + 1)) (nI_add _ _) ?_
    obtain ⟨M4, hM4⟩ : ∃ zq, zq = zst M3 3 0 (nI (k + 1)) := ⟨_, rfl⟩
    refine xw_put C u_Tb t_Tb t_Tb_ok n_Tb 3 zr_3 rfl 3 (by decide) k_143 rfl rfl (t_Tb_ok 3 (by decide)) rfl rfl (Nat.le_of_ble_eq_true rfl) (ws' := zW ca ad M4) (by rw [hM4]; exact zs_3_0 _) d_Tb_put_37 (pc' := 40) rfl ?_
    refine xw_vret C hr hlk (F := zW ca ad) M4 rfl ?_ d_Tb_put_40
    rw [hM4, hM3, hM2, hM1]; exact (if_pos h27).symm

set_option maxHeartbeats 4000000 in
set_option maxRecDepth 100000 in
/-- become -/
theorem c_Tb_become (l : Launch) (D : va_G) (ca : Nat → ClassId) (ad : Nat → Nat) (M : Nat → Nat → Int32) (g : Nat → Option Nat) (h : Nat) (hh : h ≤ 240) (hg0 : ∀ x, x < h → M 13 x = oI (g x) ∧ ∀ t, g x = some t → t < 6) : xw_Mi l y_Tb_become (.code y_Tb_become b_Tb_become 4 (some .boolean) :: zG) { frames := 1, cells := 0, slots := 0, locals := 24 } D zCl (zT ca) [.ref (ad 3), .ref (ad 13), .int (nI h)] (zW ca ad M) (fun _ => True) 0 0 (zW ca ad) (fun r M' => (∀ a b, a ≠ 3 → a ≠ 4 → a ≠ 5 → a ≠ 6 → M' a b = M a b) ∧ ((bs g h).length ≤ 60 ∧ r = nI 1 ∧ M' 3 0 = nI (bs g h).length ∧ bsR M' 4 5 6 (bs g h) ∨ ¬ (bs g h).length ≤ 60 ∧ r = nI 0 ∧ M' 3 0 = nI 0)) := by
  intro sz
  refine xw_met (cc := b_Tb_become) (maxL := 4) (ret := (some .boolean)) (by decide) rfl (Nat.le_of_ble_eq_true rfl) (fun p e s m args below meth c hr hlk hnm hsz hKs C => ?_)
  have loop1 : ∀ (d : Nat) (x : Nat) (M1 : Nat → Nat → Int32), h - x = d → x ≤ h → (∀ a b, a ≠ 3 → a ≠ 4 → a ≠ 5 → a ≠ 6 → M1 a b = M a b) → M1 3 0 = nI (bs g x).length → (bs g x).length ≤ 60 → bsR M1 4 5 6 (bs g x) → XW p l e { frames := 1, cells := 0, slots := 0, locals := 24 } s m args below meth c D zCl (va_A (zW ca ad M) sz) s.heap 4 (zW ca ad M1) 0 0 (MQ below (va_Qi (fun r M' => (∀ a b, a ≠ 3 → a ≠ 4 → a ≠ 5 → a ≠ 6 → M' a b = M a b) ∧ ((bs g h).length ≤ 60 ∧ r = nI 1 ∧ M' 3 0 = nI (bs g h).length ∧ bsR M' 4 5 6 (bs g h) ∨ ¬ (bs g h).length ≤ 60 ∧ r = nI 0 ∧ M' 3 0 = nI 0)) (xw_B D zCl (zT ca) (va_A (zW ca ad M) sz) (zW ca ad)) (va_A (zW ca ad M) sz)) args s 0 0 (va_A (zW ca ad M) sz)) 7 [(0, .ref (ad 3)), (1, .ref (ad 13)), (2, .int (nI h)), (3, .int (nI x))] [] := by
    intro d
    induction d using Nat.strongRecOn with
    | _ d ih =>
      intro x M1 hd hi hf1 hz1 hl1 hR1
      refine xw_iload_n C 3 d_Tb_become_7 rfl rfl (pc' := 8) rfl ?_
      refine xw_iload_n C 2 d_Tb_become_8 rfl rfl (pc' := 9) rfl ?_
      refine xw_icmp_ge C (tgt := 100) d_Tb_become_9 (by decide) (pc' := 12) rfl (fun h9 => ?_) (fun h9 => ?_)
      ·
        replace h9 : h ≤ x := (nI_leI (by omega) (by omega)).mp h9
        refine xw_iconst C (v := nI 1) d_Tb_become_100 (by decide) (pc' := 101) rfl ?_
        refine xw_zret C hr hlk xp_n1 (F := zW ca ad) M1 rfl ?_ d_Tb_become_101
        rw [show x = h by omega] at hz1 hl1 hR1
        exact ⟨hf1, Or.inl ⟨hl1, rfl, hz1, hR1⟩⟩
      ·
        replace h9 : ¬ (h ≤ x) := fun hneg => h9 ((nI_leI (by omega) (by omega)).mpr hneg)
        have hgx := hg0 x (by omega)
        rcases hg : g x with _ | t
        ·
          have hox : M1 13 x = -1 := by rw [hf1 _ _ (by decide) (by decide) (by decide) (by decide), hgx.1, hg]; rfl
          refine xw_aload_n C 1 d_Tb_become_12 rfl rfl (pc' := 13) rfl ?_
          refine xw_iload_n C 3 d_Tb_become_13 rfl rfl (pc' := 14) rfl ?_
          refine xw_iald C 13 0 zr_13 rfl x rfl (by omega) (by decide) d_Tb_become_14 (pc' := 15) rfl ?_
          refine xw_topi (y := (-1)) hox ?_
          refine xw_iconst C (v := (-1)) d_Tb_become_15 (by decide) (pc' := 16) rfl ?_
          refine xw_icmp_ne C (tgt := 22) d_Tb_become_16 (by decide) (pc' := 19) rfl (fun h16 => ?_) (fun h16 => ?_)
          ·
            exact absurd rfl h16
          ·
            refine xw_goto C (tgt := 94) d_Tb_become_19 (by decide) ?_
            refine xw_iinc C 3 (v := nI (x + 1)) d_Tb_become_94 rfl (xp_inc1 _) (by decide) rfl (pc' := 97) rfl ?_
            refine xw_goto C (tgt := 7) d_Tb_become_97 (by decide) ?_
            refine xw_lv [1, 2, 3, 0] rfl ?_
            exact ih (h - (x + 1)) (by omega) (x + 1) M1 rfl (by omega) hf1 (by rw [bs_none hg]; exact hz1) (by rw [bs_none hg]; exact hl1) (by rw [bs_none hg]; exact hR1)
        ·
          have hox : M1 13 x = nI t := by rw [hf1 _ _ (by decide) (by decide) (by decide) (by decide), hgx.1, hg]; rfl
          have ht6 := hgx.2 t hg
          refine xw_aload_n C 1 d_Tb_become_12 rfl rfl (pc' := 13) rfl ?_
          refine xw_iload_n C 3 d_Tb_become_13 rfl rfl (pc' := 14) rfl ?_
          refine xw_iald C 13 0 zr_13 rfl x rfl (by omega) (by decide) d_Tb_become_14 (pc' := 15) rfl ?_
          refine xw_topi (y := nI t) hox ?_
          refine xw_iconst C (v := (-1)) d_Tb_become_15 (by decide) (pc' := 16) rfl ?_
          refine xw_icmp_ne C (tgt := 22) d_Tb_become_16 (by decide) (pc' := 19) rfl (fun h16 => ?_) (fun h16 => ?_)
          ·
            refine xw_aload_n C 0 d_Tb_become_22 rfl rfl (pc' := 23) rfl ?_
            refine xw_get C u_Tb 3 zr_3 rfl 3 (by decide) k_143 rfl rfl d_Tb_become_23 (pc' := 26) rfl ?_
            refine xw_topi (y := nI ((bs g x).length)) hz1 ?_
            refine xw_if_le C (tgt := 62) d_Tb_become_26 (by decide) (pc' := 29) rfl (fun h26 => ?_) (fun h26 => ?_)
            ·
              replace h26 : ((bs g x).length) ≤ 0 := (xp_le0 (by omega)).mp h26
              have hwhy : ¬ (0 < x ∧ g (x - 1) = some t) := fun h9 => bs_ne (x := x - 1) h9.2 (by rw [show x - 1 + 1 = x by omega]; exact List.length_eq_zero_iff.mp (by omega))
              refine xw_aload_n C 0 d_Tb_become_62 rfl rfl (pc' := 63) rfl ?_
              refine xw_get C u_Tb 3 zr_3 rfl 3 (by decide) k_143 rfl rfl d_Tb_become_63 (pc' := 66) rfl ?_
              refine xw_topi (y := nI ((bs g x).length)) hz1 ?_
              refine xw_bipush C (v := nI 60) d_Tb_become_66 (by decide) (pc' := 68) rfl ?_
              refine xw_icmp_ge C (tgt := 87) d_Tb_become_68 (by decide) (pc' := 71) rfl (fun h68 => ?_) (fun h68 => ?_)
              ·
                replace h68 : 60 ≤ ((bs g x).length) := (nI_leI (by omega) (by omega)).mp h68
                refine xw_aload_n C 0 d_Tb_become_87 rfl rfl (pc' := 88) rfl ?_
                refine xw_iconst C (v := nI 0) d_Tb_become_88 (by decide) (pc' := 89) rfl ?_
                obtain ⟨M51, hM51⟩ : ∃ zq, zq = zst M1 3 0 (nI 0) := ⟨_, rfl⟩
                refine xw_put C u_Tb t_Tb t_Tb_ok n_Tb 3 zr_3 rfl 3 (by decide) k_143 rfl rfl (t_Tb_ok 3 (by decide)) rfl rfl (Nat.le_of_ble_eq_true rfl) (ws' := zW ca ad M51) (by rw [hM51]; exact zs_3_0 _) d_Tb_become_89 (pc' := 92) rfl ?_
                refine xw_iconst C (v := nI 0) d_Tb_become_92 (by decide) (pc' := 93) rfl ?_
                refine xw_zret C hr hlk xp_n0 (F := zW ca ad) M51 rfl ?_ d_Tb_become_93
                refine ⟨fun a b h1 h2 h3 h4 => by rw [hM51, zst_ap, if_neg (fun h9 => h1 h9.1)]; exact hf1 a b h1 h2 h3 h4, Or.inr ⟨fun h9 => ?_, rfl, by rw [hM51, zst_ap, if_pos ⟨rfl, rfl⟩]⟩⟩
                have q1 := bs_mono (g := g) (show x + 1 ≤ h by omega)
                rw [bs_new hg hwhy] at q1
                have q2 : (bs g x).length + 1 ≤ (bs g h).length := q1
                omega
              ·
                replace h68 : ¬ (60 ≤ ((bs g x).length)) := fun hneg => h68 ((nI_leI (by omega) (by omega)).mpr hneg)
                refine xw_aload_n C 0 d_Tb_become_71 rfl rfl (pc' := 72) rfl ?_
                refine xw_aload_n C 0 d_Tb_become_72 rfl rfl (pc' := 73) rfl ?_
                refine xw_get C u_Tb 3 zr_3 rfl 3 (by decide) k_143 rfl rfl d_Tb_become_73 (pc' := 76) rfl ?_
                refine xw_topi (y := nI ((bs g x).length)) hz1 ?_
                refine xw_iload_n C 3 d_Tb_become_76 rfl rfl (pc' := 77) rfl ?_
                refine xw_iconst C (v := nI 1) d_Tb_become_77 (by decide) (pc' := 78) rfl ?_
                refine xw_aload_n C 1 d_Tb_become_78 rfl rfl (pc' := 79) rfl ?_
                refine xw_iload_n C 3 d_Tb_become_79 rfl rfl (pc' := 80) rfl ?_
                refine xw_iald C 13 0 zr_13 rfl x rfl (by omega) (by decide) d_Tb_become_80 (pc' := 81) rfl ?_
                refine xw_topi (y := nI t) hox ?_
                refine xw_callVv C (c_Tb_put l D ca ad M1 ((bs g x).length) ((bs g x).length) (nI x) (nI 1) (nI t) (by omega) (by omega) hz1) ⟨zg_B C 4 k_423 k_28 k_426 q_Tb_put ⟨by decide, by decide⟩, C.2.2.2.2.1 _ k_424, C.2.2.2.2.1 _ k_425⟩ 3 zr_3 rfl rfl (fun _ _ _ _ h => h) (fun _ _ _ _ _ _ _ => trivial) rfl rfl (Nat.le_of_ble_eq_true rfl) d_Tb_become_81 ⟨by decide, by decide⟩ (pc' := 84) rfl (fun M53 hp54 => ?_)
                have hM53 := hp54
                refine xw_goto C (tgt := 94) d_Tb_become_84 (by decide) ?_
                refine xw_iinc C 3 (v := nI (x + 1)) d_Tb_become_94 rfl (xp_inc1 _) (by decide) rfl (pc' := 97) rfl ?_
                refine xw_goto C (tgt := 7) d_Tb_become_97 (by decide) ?_
                refine xw_lv [1, 2, 3, 0] rfl ?_
                have hnew := hwhy
                rw [zPut, if_pos rfl] at hM53
                refine ih (h - (x + 1)) (by omega) (x + 1) M53 rfl (by omega) (fun a b h1 h2 h3 h4 => by rw [hM53, zst_ap, if_neg (fun h9 => h1 h9.1), zst_ap, if_neg (fun h9 => h4 h9.1), zst_ap, if_neg (fun h9 => h3 h9.1), zst_ap, if_neg (fun h9 => h2 h9.1)]; exact hf1 a b h1 h2 h3 h4) ?_ ?_ ?_
                · rw [hM53, zst_ap, if_pos ⟨rfl, rfl⟩, bs_new hg hnew]; rfl
                · rw [bs_new hg hnew]; show (bs g x).length + 1 ≤ 60; omega
                · rw [bs_new hg hnew]
                  refine ⟨?_, ?_, ?_, hR1.keep (fun j hj => ?_)⟩
                  · rw [hM53, zst_ap, if_neg (fun h9 => absurd h9.1 (by decide)), zst_ap, if_neg (fun h9 => absurd h9.1 (by decide)), zst_ap, if_neg (fun h9 => absurd h9.1 (by decide)), zst_ap, if_pos ⟨rfl, rfl⟩]
                  · rw [hM53, zst_ap, if_neg (fun h9 => absurd h9.1 (by decide)), zst_ap, if_neg (fun h9 => absurd h9.1 (by decide)), zst_ap, if_pos ⟨rfl, rfl⟩]
                  · rw [hM53, zst_ap, if_neg (fun h9 => absurd h9.1 (by decide)), zst_ap, if_pos ⟨rfl, rfl⟩]
                  · refine ⟨?_, ?_, ?_⟩ <;> rw [hM53, zst_ap, if_neg (by omega), zst_ap, if_neg (by omega), zst_ap, if_neg (by omega), zst_ap, if_neg (by omega)]
            ·
              replace h26 : ¬ (((bs g x).length) ≤ 0) := fun hneg => h26 ((xp_le0 (by omega)).mpr hneg)
              refine xw_iload_n C 3 d_Tb_become_29 rfl rfl (pc' := 30) rfl ?_
              refine xw_if_le C (tgt := 62) d_Tb_become_30 (by decide) (pc' := 33) rfl (fun h30 => ?_) (fun h30 => ?_)
              ·
                replace h30 : x ≤ 0 := (xp_le0 (by omega)).mp h30
                have hwhy : ¬ (0 < x ∧ g (x - 1) = some t) := fun h9 => by omega
                refine xw_aload_n C 0 d_Tb_become_62 rfl rfl (pc' := 63) rfl ?_
                refine xw_get C u_Tb 3 zr_3 rfl 3 (by decide) k_143 rfl rfl d_Tb_become_63 (pc' := 66) rfl ?_
                refine xw_topi (y := nI ((bs g x).length)) hz1 ?_
                refine xw_bipush C (v := nI 60) d_Tb_become_66 (by decide) (pc' := 68) rfl ?_
                refine xw_icmp_ge C (tgt := 87) d_Tb_become_68 (by decide) (pc' := 71) rfl (fun h68 => ?_) (fun h68 => ?_)
                ·
                  replace h68 : 60 ≤ ((bs g x).length) := (nI_leI (by omega) (by omega)).mp h68
                  refine xw_aload_n C 0 d_Tb_become_87 rfl rfl (pc' := 88) rfl ?_
                  refine xw_iconst C (v := nI 0) d_Tb_become_88 (by decide) (pc' := 89) rfl ?_
                  obtain ⟨M55, hM55⟩ : ∃ zq, zq = zst M1 3 0 (nI 0) := ⟨_, rfl⟩
                  refine xw_put C u_Tb t_Tb t_Tb_ok n_Tb 3 zr_3 rfl 3 (by decide) k_143 rfl rfl (t_Tb_ok 3 (by decide)) rfl rfl (Nat.le_of_ble_eq_true rfl) (ws' := zW ca ad M55) (by rw [hM55]; exact zs_3_0 _) d_Tb_become_89 (pc' := 92) rfl ?_
                  refine xw_iconst C (v := nI 0) d_Tb_become_92 (by decide) (pc' := 93) rfl ?_
                  refine xw_zret C hr hlk xp_n0 (F := zW ca ad) M55 rfl ?_ d_Tb_become_93
                  refine ⟨fun a b h1 h2 h3 h4 => by rw [hM55, zst_ap, if_neg (fun h9 => h1 h9.1)]; exact hf1 a b h1 h2 h3 h4, Or.inr ⟨fun h9 => ?_, rfl, by rw [hM55, zst_ap, if_pos ⟨rfl, rfl⟩]⟩⟩
                  have q1 := bs_mono (g := g) (show x + 1 ≤ h by omega)
                  rw [bs_new hg hwhy] at q1
                  have q2 : (bs g x).length + 1 ≤ (bs g h).length := q1
                  omega
                ·
                  replace h68 : ¬ (60 ≤ ((bs g x).length)) := fun hneg => h68 ((nI_leI (by omega) (by omega)).mpr hneg)
                  refine xw_aload_n C 0 d_Tb_become_71 rfl rfl (pc' := 72) rfl ?_
                  refine xw_aload_n C 0 d_Tb_become_72 rfl rfl (pc' := 73) rfl ?_
                  refine xw_get C u_Tb 3 zr_3 rfl 3 (by decide) k_143 rfl rfl d_Tb_become_73 (pc' := 76) rfl ?_
                  refine xw_topi (y := nI ((bs g x).length)) hz1 ?_
                  refine xw_iload_n C 3 d_Tb_become_76 rfl rfl (pc' := 77) rfl ?_
                  refine xw_iconst C (v := nI 1) d_Tb_become_77 (by decide) (pc' := 78) rfl ?_
                  refine xw_aload_n C 1 d_Tb_become_78 rfl rfl (pc' := 79) rfl ?_
                  refine xw_iload_n C 3 d_Tb_become_79 rfl rfl (pc' := 80) rfl ?_
                  refine xw_iald C 13 0 zr_13 rfl x rfl (by omega) (by decide) d_Tb_become_80 (pc' := 81) rfl ?_
                  refine xw_topi (y := nI t) hox ?_
                  refine xw_callVv C (c_Tb_put l D ca ad M1 ((bs g x).length) ((bs g x).length) (nI x) (nI 1) (nI t) (by omega) (by omega) hz1) ⟨zg_B C 4 k_423 k_28 k_426 q_Tb_put ⟨by decide, by decide⟩, C.2.2.2.2.1 _ k_424, C.2.2.2.2.1 _ k_425⟩ 3 zr_3 rfl rfl (fun _ _ _ _ h => h) (fun _ _ _ _ _ _ _ => trivial) rfl rfl (Nat.le_of_ble_eq_true rfl) d_Tb_become_81 ⟨by decide, by decide⟩ (pc' := 84) rfl (fun M57 hp58 => ?_)
                  have hM57 := hp58
                  refine xw_goto C (tgt := 94) d_Tb_become_84 (by decide) ?_
                  refine xw_iinc C 3 (v := nI (x + 1)) d_Tb_become_94 rfl (xp_inc1 _) (by decide) rfl (pc' := 97) rfl ?_
                  refine xw_goto C (tgt := 7) d_Tb_become_97 (by decide) ?_
                  refine xw_lv [1, 2, 3, 0] rfl ?_
                  have hnew := hwhy
                  rw [zPut, if_pos rfl] at hM57
                  refine ih (h - (x + 1)) (by omega) (x + 1) M57 rfl (by omega) (fun a b h1 h2 h3 h4 => by rw [hM57, zst_ap, if_neg (fun h9 => h1 h9.1), zst_ap, if_neg (fun h9 => h4 h9.1), zst_ap, if_neg (fun h9 => h3 h9.1), zst_ap, if_neg (fun h9 => h2 h9.1)]; exact hf1 a b h1 h2 h3 h4) ?_ ?_ ?_
                  · rw [hM57, zst_ap, if_pos ⟨rfl, rfl⟩, bs_new hg hnew]; rfl
                  · rw [bs_new hg hnew]; show (bs g x).length + 1 ≤ 60; omega
                  · rw [bs_new hg hnew]
                    refine ⟨?_, ?_, ?_, hR1.keep (fun j hj => ?_)⟩
                    · rw [hM57, zst_ap, if_neg (fun h9 => absurd h9.1 (by decide)), zst_ap, if_neg (fun h9 => absurd h9.1 (by decide)), zst_ap, if_neg (fun h9 => absurd h9.1 (by decide)), zst_ap, if_pos ⟨rfl, rfl⟩]
                    · rw [hM57, zst_ap, if_neg (fun h9 => absurd h9.1 (by decide)), zst_ap, if_neg (fun h9 => absurd h9.1 (by decide)), zst_ap, if_pos ⟨rfl, rfl⟩]
                    · rw [hM57, zst_ap, if_neg (fun h9 => absurd h9.1 (by decide)), zst_ap, if_pos ⟨rfl, rfl⟩]
                    · refine ⟨?_, ?_, ?_⟩ <;> rw [hM57, zst_ap, if_neg (by omega), zst_ap, if_neg (by omega), zst_ap, if_neg (by omega), zst_ap, if_neg (by omega)]
              ·
                replace h30 : ¬ (x ≤ 0) := fun hneg => h30 ((xp_le0 (by omega)).mpr hneg)
                refine xw_aload_n C 1 d_Tb_become_33 rfl rfl (pc' := 34) rfl ?_
                refine xw_iload_n C 3 d_Tb_become_34 rfl rfl (pc' := 35) rfl ?_
                refine xw_iald C 13 0 zr_13 rfl x rfl (by omega) (by decide) d_Tb_become_35 (pc' := 36) rfl ?_
                refine xw_topi (y := nI t) hox ?_
                refine xw_aload_n C 1 d_Tb_become_36 rfl rfl (pc' := 37) rfl ?_
                refine xw_iload_n C 3 d_Tb_become_37 rfl rfl (pc' := 38) rfl ?_
                refine xw_iconst C (v := nI 1) d_Tb_become_38 (by decide) (pc' := 39) rfl ?_
                refine xw_isub C d_Tb_become_39 (pc' := 40) rfl ?_
                refine xw_topi (y := nI (x - 1)) (pk_sub (by omega)) ?_
                have hgp := hg0 (x - 1) (by omega)
                have hop : M1 13 (x - 1) = oI (g (x - 1)) := by rw [hf1 _ _ (by decide) (by decide) (by decide) (by decide)]; exact hgp.1
                refine xw_iald C 13 0 zr_13 rfl (x - 1) rfl (by omega) (by decide) d_Tb_become_40 (pc' := 41) rfl ?_
                refine xw_topi (y := oI (g (x - 1))) hop ?_
                refine xw_icmp_ne C (tgt := 62) d_Tb_become_41 (by decide) (pc' := 44) rfl (fun h41 => ?_) (fun h41 => ?_)
                ·
                  have hwhy : ¬ (0 < x ∧ g (x - 1) = some t) := fun h9 => h41 (by rw [h9.2]; rfl)
                  refine xw_aload_n C 0 d_Tb_become_62 rfl rfl (pc' := 63) rfl ?_
                  refine xw_get C u_Tb 3 zr_3 rfl 3 (by decide) k_143 rfl rfl d_Tb_become_63 (pc' := 66) rfl ?_
                  refine xw_topi (y := nI ((bs g x).length)) hz1 ?_
                  refine xw_bipush C (v := nI 60) d_Tb_become_66 (by decide) (pc' := 68) rfl ?_
                  refine xw_icmp_ge C (tgt := 87) d_Tb_become_68 (by decide) (pc' := 71) rfl (fun h68 => ?_) (fun h68 => ?_)
                  ·
                    replace h68 : 60 ≤ ((bs g x).length) := (nI_leI (by omega) (by omega)).mp h68
                    refine xw_aload_n C 0 d_Tb_become_87 rfl rfl (pc' := 88) rfl ?_
                    refine xw_iconst C (v := nI 0) d_Tb_become_88 (by decide) (pc' := 89) rfl ?_
                    obtain ⟨M59, hM59⟩ : ∃ zq, zq = zst M1 3 0 (nI 0) := ⟨_, rfl⟩
                    refine xw_put C u_Tb t_Tb t_Tb_ok n_Tb 3 zr_3 rfl 3 (by decide) k_143 rfl rfl (t_Tb_ok 3 (by decide)) rfl rfl (Nat.le_of_ble_eq_true rfl) (ws' := zW ca ad M59) (by rw [hM59]; exact zs_3_0 _) d_Tb_become_89 (pc' := 92) rfl ?_
                    refine xw_iconst C (v := nI 0) d_Tb_become_92 (by decide) (pc' := 93) rfl ?_
                    refine xw_zret C hr hlk xp_n0 (F := zW ca ad) M59 rfl ?_ d_Tb_become_93
                    refine ⟨fun a b h1 h2 h3 h4 => by rw [hM59, zst_ap, if_neg (fun h9 => h1 h9.1)]; exact hf1 a b h1 h2 h3 h4, Or.inr ⟨fun h9 => ?_, rfl, by rw [hM59, zst_ap, if_pos ⟨rfl, rfl⟩]⟩⟩
                    have q1 := bs_mono (g := g) (show x + 1 ≤ h by omega)
                    rw [bs_new hg hwhy] at q1
                    have q2 : (bs g x).length + 1 ≤ (bs g h).length := q1
                    omega
                  ·
                    replace h68 : ¬ (60 ≤ ((bs g x).length)) := fun hneg => h68 ((nI_leI (by omega) (by omega)).mpr hneg)
                    refine xw_aload_n C 0 d_Tb_become_71 rfl rfl (pc' := 72) rfl ?_
                    refine xw_aload_n C 0 d_Tb_become_72 rfl rfl (pc' := 73) rfl ?_
                    refine xw_get C u_Tb 3 zr_3 rfl 3 (by decide) k_143 rfl rfl d_Tb_become_73 (pc' := 76) rfl ?_
                    refine xw_topi (y := nI ((bs g x).length)) hz1 ?_
                    refine xw_iload_n C 3 d_Tb_become_76 rfl rfl (pc' := 77) rfl ?_
                    refine xw_iconst C (v := nI 1) d_Tb_become_77 (by decide) (pc' := 78) rfl ?_
                    refine xw_aload_n C 1 d_Tb_become_78 rfl rfl (pc' := 79) rfl ?_
                    refine xw_iload_n C 3 d_Tb_become_79 rfl rfl (pc' := 80) rfl ?_
                    refine xw_iald C 13 0 zr_13 rfl x rfl (by omega) (by decide) d_Tb_become_80 (pc' := 81) rfl ?_
                    refine xw_topi (y := nI t) hox ?_
                    refine xw_callVv C (c_Tb_put l D ca ad M1 ((bs g x).length) ((bs g x).length) (nI x) (nI 1) (nI t) (by omega) (by omega) hz1) ⟨zg_B C 4 k_423 k_28 k_426 q_Tb_put ⟨by decide, by decide⟩, C.2.2.2.2.1 _ k_424, C.2.2.2.2.1 _ k_425⟩ 3 zr_3 rfl rfl (fun _ _ _ _ h => h) (fun _ _ _ _ _ _ _ => trivial) rfl rfl (Nat.le_of_ble_eq_true rfl) d_Tb_become_81 ⟨by decide, by decide⟩ (pc' := 84) rfl (fun M61 hp62 => ?_)
                    have hM61 := hp62
                    refine xw_goto C (tgt := 94) d_Tb_become_84 (by decide) ?_
                    refine xw_iinc C 3 (v := nI (x + 1)) d_Tb_become_94 rfl (xp_inc1 _) (by decide) rfl (pc' := 97) rfl ?_
                    refine xw_goto C (tgt := 7) d_Tb_become_97 (by decide) ?_
                    refine xw_lv [1, 2, 3, 0] rfl ?_
                    have hnew := hwhy
                    rw [zPut, if_pos rfl] at hM61
                    refine ih (h - (x + 1)) (by omega) (x + 1) M61 rfl (by omega) (fun a b h1 h2 h3 h4 => by rw [hM61, zst_ap, if_neg (fun h9 => h1 h9.1), zst_ap, if_neg (fun h9 => h4 h9.1), zst_ap, if_neg (fun h9 => h3 h9.1), zst_ap, if_neg (fun h9 => h2 h9.1)]; exact hf1 a b h1 h2 h3 h4) ?_ ?_ ?_
                    · rw [hM61, zst_ap, if_pos ⟨rfl, rfl⟩, bs_new hg hnew]; rfl
                    · rw [bs_new hg hnew]; show (bs g x).length + 1 ≤ 60; omega
                    · rw [bs_new hg hnew]
                      refine ⟨?_, ?_, ?_, hR1.keep (fun j hj => ?_)⟩
                      · rw [hM61, zst_ap, if_neg (fun h9 => absurd h9.1 (by decide)), zst_ap, if_neg (fun h9 => absurd h9.1 (by decide)), zst_ap, if_neg (fun h9 => absurd h9.1 (by decide)), zst_ap, if_pos ⟨rfl, rfl⟩]
                      · rw [hM61, zst_ap, if_neg (fun h9 => absurd h9.1 (by decide)), zst_ap, if_neg (fun h9 => absurd h9.1 (by decide)), zst_ap, if_pos ⟨rfl, rfl⟩]
                      · rw [hM61, zst_ap, if_neg (fun h9 => absurd h9.1 (by decide)), zst_ap, if_pos ⟨rfl, rfl⟩]
                      · refine ⟨?_, ?_, ?_⟩ <;> rw [hM61, zst_ap, if_neg (by omega), zst_ap, if_neg (by omega), zst_ap, if_neg (by omega), zst_ap, if_neg (by omega)]
                ·
                  have hg1 : g (x - 1) = some t := (oI_inj (a := some t) (b := g (x - 1)) (fun t9 h9 => by cases h9; omega) (fun t9 h9 => by have := hgp.2 t9 h9; omega) h41).symm
                  obtain ⟨qq, rr, hL⟩ : ∃ q r, bs g x = q :: r := by
                    rcases hL : bs g x with _ | ⟨q, r⟩
                    · rw [hL] at h26; exact absurd h26 (by show ¬ ¬ (0 ≤ 0); omega)
                    · exact ⟨q, r, rfl⟩
                  refine xw_aload_n C 0 d_Tb_become_44 rfl rfl (pc' := 45) rfl ?_
                  refine xw_get C u_Tb 3 zr_3 rfl 1 (by decide) k_141 rfl rfl d_Tb_become_45 (pc' := 48) rfl ?_
                  refine xw_aload_n C 0 d_Tb_become_48 rfl rfl (pc' := 49) rfl ?_
                  refine xw_get C u_Tb 3 zr_3 rfl 3 (by decide) k_143 rfl rfl d_Tb_become_49 (pc' := 52) rfl ?_
                  refine xw_topi (y := nI ((bs g x).length)) hz1 ?_
                  refine xw_iconst C (v := nI 1) d_Tb_become_52 (by decide) (pc' := 53) rfl ?_
                  refine xw_isub C d_Tb_become_53 (pc' := 54) rfl ?_
                  refine xw_topi (y := nI (((bs g x).length) - 1)) (pk_sub (by omega)) ?_
                  refine xw_dup2_11 C d_Tb_become_54 rfl rfl (pc' := 55) rfl ?_
                  refine xw_iald C 5 0 zr_5 rfl (((bs g x).length) - 1) rfl (by omega) (by decide) d_Tb_become_55 (pc' := 56) rfl ?_
                  refine xw_iconst C (v := nI 1) d_Tb_become_56 (by decide) (pc' := 57) rfl ?_
                  refine xw_iadd C d_Tb_become_57 (pc' := 58) rfl ?_
                  obtain ⟨M63, hM63⟩ : ∃ zq, zq = zst M1 5 (((bs g x).length) - 1) ((M1 5 (((bs g x).length) - 1)) + (nI 1)) := ⟨_, rfl⟩
                  refine xw_iast C 5 0 zr_5 rfl (((bs g x).length) - 1) rfl (by omega) (by decide) (ws' := zW ca ad M63) (by rw [hM63]; exact zs_5 _ _) d_Tb_become_58 (pc' := 59) rfl ?_
                  refine xw_goto C (tgt := 94) d_Tb_become_59 (by decide) ?_
                  refine xw_iinc C 3 (v := nI (x + 1)) d_Tb_become_94 rfl (xp_inc1 _) (by decide) rfl (pc' := 97) rfl ?_
                  refine xw_goto C (tgt := 7) d_Tb_become_97 (by decide) ?_
                  refine xw_lv [1, 2, 3, 0] rfl ?_
                  refine ih (h - (x + 1)) (by omega) (x + 1) M63 rfl (by omega) (fun a b h1 h2 h3 h4 => by rw [hM63, zst_ap, if_neg (fun h9 => h3 h9.1)]; exact hf1 a b h1 h2 h3 h4) ?_ ?_ ?_
                  · rw [hM63, zst_ap, if_neg (fun h9 => absurd h9.1 (by decide)), bs_ext hg (by omega) hg1 hL]; exact hz1.trans (by rw [hL]; rfl)
                  · rw [bs_ext hg (by omega) hg1 hL]; rw [hL] at hl1; exact hl1
                  · rw [bs_ext hg (by omega) hg1 hL]
                    rw [hL] at hR1
                    obtain ⟨a1, a2, a3, a4⟩ := hR1
                    have hlr : (bs g x).length - 1 = rr.length := by rw [hL]; rfl
                    rw [hlr] at hM63
                    refine ⟨?_, ?_, ?_, a4.keep (fun j hj => ?_)⟩
                    · rw [hM63, zst_ap, if_neg (fun h9 => absurd h9.1 (by decide))]; exact a1
                    · rw [hM63, zst_ap, if_pos ⟨rfl, rfl⟩, a2]; exact nI_add _ _
                    · rw [hM63, zst_ap, if_neg (fun h9 => absurd h9.1 (by decide))]; exact a3
                    · refine ⟨?_, ?_, ?_⟩
                      · rw [hM63, zst_ap, if_neg (fun h9 => absurd h9.1 (by decide))]
                      · rw [hM63, zst_ap, if_neg (fun h9 : 5 = 5 ∧ j = rr.length => absurd h9.2 (by omega))]
                      · rw [hM63, zst_ap, if_neg (fun h9 => absurd h9.1 (by decide))]
          ·
            exact absurd h16 (xp_nem1 (by omega))
  refine xw_lvE (lv' := [(0, .ref (ad 3)), (1, .ref (ad 13)), (2, .int (nI h))]) rfl ?_
  refine xw_aload_n C 0 d_Tb_become_0 rfl rfl (pc' := 1) rfl ?_
  refine xw_iconst C (v := nI 0) d_Tb_become_1 (by decide) (pc' := 2) rfl ?_
  obtain ⟨M1, hM1⟩ : ∃ zq, zq = zst M 3 0 (nI 0) := ⟨_, rfl⟩
  refine xw_put C u_Tb t_Tb t_Tb_ok n_Tb 3 zr_3 rfl 3 (by decide) k_143 rfl rfl (t_Tb_ok 3 (by decide)) rfl rfl (Nat.le_of_ble_eq_true rfl) (ws' := zW ca ad M1) (by rw [hM1]; exact zs_3_0 _) d_Tb_become_2 (pc' := 5) rfl ?_
  refine xw_iconst C (v := nI 0) d_Tb_become_5 (by decide) (pc' := 6) rfl ?_
  refine xw_istore_n C d_Tb_become_6 rfl (by decide) rfl (pc' := 7) rfl ?_
  refine xw_lv [1, 2, 3, 0] rfl ?_
  exact loop1 h 0 M1 rfl (by omega) (fun a b h1 h2 h3 h4 => by rw [hM1, zst_ap, if_neg (fun h9 => h1 h9.1)]) (by rw [hM1, zst_ap, if_pos ⟨rfl, rfl⟩]; rfl) (by show (0 : Nat) ≤ 60; omega) trivial
end
section
/-- the slots' numbers -/
def slOK (M : Nat → Nat → Int32) (k : Nat) (st ln tk : Nat → Nat) : Prop := M 3 0 = nI k ∧ k ≤ 60 ∧ ∀ i, i < k → M 4 i = nI (st i) ∧ M 5 i = nI (ln i) ∧ M 6 i = nI (tk i) ∧ st i < 240 ∧ 1 ≤ ln i ∧ ln i ≤ 240 ∧ tk i < 6
theorem slOK.keep {M M1 : Nat → Nat → Int32} {k : Nat} {st ln tk : Nat → Nat} (h : slOK M k st ln tk) (h3 : M1 3 0 = M 3 0) (h4 : ∀ j, M1 4 j = M 4 j) (h5 : ∀ j, M1 5 j = M 5 j) (h6 : ∀ j, M1 6 j = M 6 j) : slOK M1 k st ln tk := by
  obtain ⟨a, b, c⟩ := h
  refine ⟨h3.trans a, b, fun i hi => ?_⟩
  rw [h4, h5, h6]
  exact c i hi
/-- the task of the last of the first i slots that covers tick c; how many cover it -/
def sp_at (st ln tk : Nat → Nat) : Nat → Nat → Option Nat
  | 0, _ => none
  | i + 1, c => if st i ≤ c ∧ c < st i + ln i then some (tk i) else sp_at st ln tk i c
def sp_cov (st ln : Nat → Nat) : Nat → Nat → Nat
  | 0, _ => 0
  | i + 1, c => if st i ≤ c ∧ c < st i + ln i then sp_cov st ln i c + 1 else sp_cov st ln i c
theorem sp_at_1 {st ln tk : Nat → Nat} {i c : Nat} (h : st i ≤ c ∧ c < st i + ln i) : sp_at st ln tk (i + 1) c = some (tk i) := if_pos h
theorem sp_at_0 {st ln tk : Nat → Nat} {i c : Nat} (h : ¬ (st i ≤ c ∧ c < st i + ln i)) : sp_at st ln tk (i + 1) c = sp_at st ln tk i c := if_neg h
theorem sp_cov_1 {st ln : Nat → Nat} {i c : Nat} (h : st i ≤ c ∧ c < st i + ln i) : sp_cov st ln (i + 1) c = sp_cov st ln i c + 1 := if_pos h
theorem sp_cov_0 {st ln : Nat → Nat} {i c : Nat} (h : ¬ (st i ≤ c ∧ c < st i + ln i)) : sp_cov st ln (i + 1) c = sp_cov st ln i c := if_neg h
theorem sp_at_cov {st ln tk : Nat → Nat} {i c : Nat} : sp_at st ln tk i c = none ↔ sp_cov st ln i c = 0 := by
  induction i with
  | zero => exact ⟨fun _ => rfl, fun _ => rfl⟩
  | succ i ih =>
    by_cases h : st i ≤ c ∧ c < st i + ln i
    · rw [sp_at_1 h, sp_cov_1 h]
      exact ⟨fun q => (by cases q), fun q => (by omega)⟩
    · rw [sp_at_0 h, sp_cov_0 h]; exact ih
theorem sp_at_in {st ln tk : Nat → Nat} {i c t : Nat} (h : sp_at st ln tk i c = some t) : ∃ j, j < i ∧ tk j = t := by
  induction i with
  | zero => cases h
  | succ i ih =>
    by_cases d : st i ≤ c ∧ c < st i + ln i
    · rw [sp_at_1 d] at h; cases h; exact ⟨i, by omega, rfl⟩
    · rw [sp_at_0 d] at h
      obtain ⟨j, h1, h2⟩ := ih h
      exact ⟨j, by omega, h2⟩
theorem sp_cov_mono {st ln : Nat → Nat} {i j c : Nat} (h : i ≤ j) : sp_cov st ln i c ≤ sp_cov st ln j c := by
  induction j with
  | zero => rw [show i = 0 by omega]; exact Nat.le_refl _
  | succ j ih =>
    rcases Nat.lt_or_ge i (j + 1) with d | d
    · have q := ih (by omega)
      by_cases e : st j ≤ c ∧ c < st j + ln j
      · rw [sp_cov_1 e]; omega
      · rw [sp_cov_0 e]; exact q
    · rw [show i = j + 1 by omega]; exact Nat.le_refl _
/-- no slot leaves the round and no two meet -/
def sp_tab (st ln : Nat → Nat) (k h : Nat) : Prop := (∀ i, i < k → st i + ln i ≤ h) ∧ ∀ c, c < h → sp_cov st ln k c < 2

set_option maxHeartbeats 4000000 in
set_option maxRecDepth 100000 in
/-- spread -/
theorem c_Tb_spread (l : Launch) (D : va_G) (ca : Nat → ClassId) (ad : Nat → Nat) (M : Nat → Nat → Int32) (k : Nat) (st ln tk : Nat → Nat) (h : Nat) (hS : slOK M k st ln tk) (hh1 : 1 ≤ h) (hh : h ≤ 240) : xw_Mi l y_Tb_spread (.code y_Tb_spread b_Tb_spread 5 (some .boolean) :: zG) { frames := 1, cells := 0, slots := 0, locals := 23 } D zCl (zT ca) [.ref (ad 3), .ref (ad 13), .int (nI h)] (zW ca ad M) (fun _ => True) 0 0 (zW ca ad) (fun r M' => (∀ a b, a ≠ 13 → M' a b = M a b) ∧ (sp_tab st ln k h ∧ r = nI 1 ∧ (∀ u, u < 240 → M' 13 u = oI (sp_at st ln tk k u)) ∨ ¬ sp_tab st ln k h ∧ r = nI 0)) := by
  intro sz
  refine xw_met (cc := b_Tb_spread) (maxL := 5) (ret := (some .boolean)) (by decide) rfl (Nat.le_of_ble_eq_true rfl) (fun p e s m args below meth c hr hlk hnm hsz hKs C => ?_)
  have hk60 := hS.2.1
  have loop1 : ∀ (d : Nat) (i : Nat) (M1 : Nat → Nat → Int32), k - i = d → i ≤ k → (∀ a b, a ≠ 13 → M1 a b = M a b) → (∀ u, u < 240 → M1 13 u = oI (sp_at st ln tk i u)) → (∀ j, j < i → st j + ln j ≤ h) → (∀ u, u < h → sp_cov st ln i u < 2) → XW p l e { frames := 1, cells := 0, slots := 0, locals := 23 } s m args below meth c D zCl (va_A (zW ca ad M) sz) s.heap 5 (zW ca ad M1) 0 0 (MQ below (va_Qi (fun r M' => (∀ a b, a ≠ 13 → M' a b = M a b) ∧ (sp_tab st ln k h ∧ r = nI 1 ∧ (∀ u, u < 240 → M' 13 u = oI (sp_at st ln tk k u)) ∨ ¬ sp_tab st ln k h ∧ r = nI 0)) (xw_B D zCl (zT ca) (va_A (zW ca ad M) sz) (zW ca ad)) (va_A (zW ca ad M) sz)) args s 0 0 (va_A (zW ca ad M) sz)) 7 [(0, .ref (ad 3)), (1, .ref (ad 13)), (2, .int (nI h)), (3, .int (nI i))] [] := by
    intro d
    induction d using Nat.strongRecOn with
    | _ d ih =>
      intro i M1 hd hi hf1 hv1 hb1 hcv1
      have hS1 : slOK M1 k st ln tk := hS.keep (hf1 _ _ (by decide)) (fun j => hf1 _ _ (by decide)) (fun j => hf1 _ _ (by decide)) (fun j => hf1 _ _ (by decide))
      refine xw_iload_n C 3 d_Tb_spread_7 rfl rfl (pc' := 8) rfl ?_
      refine xw_aload_n C 0 d_Tb_spread_8 rfl rfl (pc' := 9) rfl ?_
      refine xw_get C u_Tb 3 zr_3 rfl 3 (by decide) k_143 rfl rfl d_Tb_spread_9 (pc' := 12) rfl ?_
      refine xw_topi (y := nI k) hS1.1 ?_
      refine xw_icmp_ge C (tgt := 92) d_Tb_spread_12 (by decide) (pc' := 15) rfl (fun h12 => ?_) (fun h12 => ?_)
      ·
        replace h12 : k ≤ i := (nI_leI (by omega) (by omega)).mp h12
        refine xw_iconst C (v := nI 1) d_Tb_spread_92 (by decide) (pc' := 93) rfl ?_
        refine xw_zret C hr hlk xp_n1 (F := zW ca ad) M1 rfl ?_ d_Tb_spread_93
        rw [show i = k by omega] at hv1 hb1 hcv1
        exact ⟨hf1, Or.inl ⟨⟨hb1, hcv1⟩, rfl, hv1⟩⟩
      ·
        replace h12 : ¬ (k ≤ i) := fun hneg => h12 ((nI_leI (by omega) (by omega)).mpr hneg)
        refine xw_aload_n C 0 d_Tb_spread_15 rfl rfl (pc' := 16) rfl ?_
        refine xw_get C u_Tb 3 zr_3 rfl 0 (by decide) k_140 rfl rfl d_Tb_spread_16 (pc' := 19) rfl ?_
        refine xw_iload_n C 3 d_Tb_spread_19 rfl rfl (pc' := 20) rfl ?_
        refine xw_iald C 4 0 zr_4 rfl i rfl (by omega) (by decide) d_Tb_spread_20 (pc' := 21) rfl ?_
        refine xw_topi (y := nI (st i)) (hS1.2.2 i (by omega)).1 ?_
        refine xw_aload_n C 0 d_Tb_spread_21 rfl rfl (pc' := 22) rfl ?_
        refine xw_get C u_Tb 3 zr_3 rfl 1 (by decide) k_141 rfl rfl d_Tb_spread_22 (pc' := 25) rfl ?_
        refine xw_iload_n C 3 d_Tb_spread_25 rfl rfl (pc' := 26) rfl ?_
        refine xw_iald C 5 0 zr_5 rfl i rfl (by omega) (by decide) d_Tb_spread_26 (pc' := 27) rfl ?_
        refine xw_topi (y := nI (ln i)) (hS1.2.2 i (by omega)).2.1 ?_
        refine xw_iadd C d_Tb_spread_27 (pc' := 28) rfl ?_
        refine xw_topi (y := nI ((st i) + (ln i))) (nI_add _ _) ?_
        refine xw_iload_n C 2 d_Tb_spread_28 rfl rfl (pc' := 29) rfl ?_
        have hbi := hS.2.2 i (by omega)
        refine xw_icmp_le C (tgt := 34) d_Tb_spread_29 (by decide) (pc' := 32) rfl (fun h29 => ?_) (fun h29 => ?_)
        ·
          replace h29 : ((st i) + (ln i)) ≤ h := (nI_leI (by omega) (by omega)).mp h29
          refine xw_aload_n C 0 d_Tb_spread_34 rfl rfl (pc' := 35) rfl ?_
          refine xw_get C u_Tb 3 zr_3 rfl 0 (by decide) k_140 rfl rfl d_Tb_spread_35 (pc' := 38) rfl ?_
          refine xw_iload_n C 3 d_Tb_spread_38 rfl rfl (pc' := 39) rfl ?_
          refine xw_iald C 4 0 zr_4 rfl i rfl (by omega) (by decide) d_Tb_spread_39 (pc' := 40) rfl ?_
          refine xw_topi (y := nI (st i)) (hS1.2.2 i (by omega)).1 ?_
          refine xw_istore C d_Tb_spread_40 (by decide) rfl (pc' := 42) rfl ?_
          refine xw_lv [1, 2, 3, 4, 0] rfl ?_
          have loop2 : ∀ (d2 : Nat) (x : Nat) (M2 : Nat → Nat → Int32), st i + ln i - x = d2 → st i ≤ x → x ≤ st i + ln i → (∀ a b, a ≠ 13 → M2 a b = M a b) → (∀ u, u < 240 → M2 13 u = if st i ≤ u ∧ u < x then nI (tk i) else oI (sp_at st ln tk i u)) → (∀ u, st i ≤ u → u < x → sp_cov st ln i u = 0) → XW p l e { frames := 1, cells := 0, slots := 0, locals := 23 } s m args below meth c D zCl (va_A (zW ca ad M) sz) s.heap 5 (zW ca ad M2) 0 0 (MQ below (va_Qi (fun r M' => (∀ a b, a ≠ 13 → M' a b = M a b) ∧ (sp_tab st ln k h ∧ r = nI 1 ∧ (∀ u, u < 240 → M' 13 u = oI (sp_at st ln tk k u)) ∨ ¬ sp_tab st ln k h ∧ r = nI 0)) (xw_B D zCl (zT ca) (va_A (zW ca ad M) sz) (zW ca ad)) (va_A (zW ca ad M) sz)) args s 0 0 (va_A (zW ca ad M) sz)) 42 [(0, .ref (ad 3)), (1, .ref (ad 13)), (2, .int (nI h)), (3, .int (nI i)), (4, .int (nI x))] [] := by
            intro d2
            induction d2 using Nat.strongRecOn with
            | _ d2 ih2 =>
              intro x M2 hd2 hx1 hx2 hf2 hv2 hc2
              have hS2 : slOK M2 k st ln tk := hS.keep (hf2 _ _ (by decide)) (fun j => hf2 _ _ (by decide)) (fun j => hf2 _ _ (by decide)) (fun j => hf2 _ _ (by decide))
              refine xw_iload C 4 d_Tb_spread_42 rfl (pc' := 44) rfl ?_
              refine xw_aload_n C 0 d_Tb_spread_44 rfl rfl (pc' := 45) rfl ?_
              refine xw_get C u_Tb 3 zr_3 rfl 0 (by decide) k_140 rfl rfl d_Tb_spread_45 (pc' := 48) rfl ?_
              refine xw_iload_n C 3 d_Tb_spread_48 rfl rfl (pc' := 49) rfl ?_
              refine xw_iald C 4 0 zr_4 rfl i rfl (by omega) (by decide) d_Tb_spread_49 (pc' := 50) rfl ?_
              refine xw_topi (y := nI (st i)) (hS2.2.2 i (by omega)).1 ?_
              refine xw_aload_n C 0 d_Tb_spread_50 rfl rfl (pc' := 51) rfl ?_
              refine xw_get C u_Tb 3 zr_3 rfl 1 (by decide) k_141 rfl rfl d_Tb_spread_51 (pc' := 54) rfl ?_
              refine xw_iload_n C 3 d_Tb_spread_54 rfl rfl (pc' := 55) rfl ?_
              refine xw_iald C 5 0 zr_5 rfl i rfl (by omega) (by decide) d_Tb_spread_55 (pc' := 56) rfl ?_
              refine xw_topi (y := nI (ln i)) (hS2.2.2 i (by omega)).2.1 ?_
              refine xw_iadd C d_Tb_spread_56 (pc' := 57) rfl ?_
              refine xw_topi (y := nI ((st i) + (ln i))) (nI_add _ _) ?_
              have hbi := hS.2.2 i (by omega)
              refine xw_icmp_ge C (tgt := 86) d_Tb_spread_57 (by decide) (pc' := 60) rfl (fun h57 => ?_) (fun h57 => ?_)
              ·
                replace h57 : ((st i) + (ln i)) ≤ x := (nI_leI (by omega) (by omega)).mp h57
                refine xw_iinc C 3 (v := nI (i + 1)) d_Tb_spread_86 rfl (xp_inc1 _) (by decide) rfl (pc' := 89) rfl ?_
                refine xw_goto C (tgt := 7) d_Tb_spread_89 (by decide) ?_
                refine xw_lv [1, 2, 3, 0] rfl ?_
                refine ih (k - (i + 1)) (by omega) (i + 1) M2 rfl (by omega) hf2 (fun u hu => ?_) (fun j hj => ?_) (fun u hu => ?_)
                · rw [hv2 u hu]
                  by_cases c9 : st i ≤ u ∧ u < st i + ln i
                  · rw [sp_at_1 c9, if_pos ⟨c9.1, by omega⟩]; rfl
                  · rw [sp_at_0 c9, if_neg (fun h9 => c9 ⟨h9.1, by omega⟩)]
                · rcases Nat.lt_or_ge j i with c9 | c9
                  · exact hb1 j c9
                  · rw [show j = i by omega]; omega
                · by_cases c9 : st i ≤ u ∧ u < st i + ln i
                  · rw [sp_cov_1 c9, hc2 u c9.1 (by omega)]; omega
                  · rw [sp_cov_0 c9]; exact hcv1 u hu
              ·
                replace h57 : ¬ (((st i) + (ln i)) ≤ x) := fun hneg => h57 ((nI_leI (by omega) (by omega)).mpr hneg)
                have hx2 := hv2 x (by omega)
                rw [if_neg (fun h9 => absurd h9.2 (Nat.lt_irrefl x))] at hx2
                rcases hax : sp_at st ln tk i x with _ | t9
                ·
                  have hox : M2 13 x = -1 := by rw [hx2, hax]; rfl
                  have hc9 : sp_cov st ln i x = 0 := sp_at_cov.mp hax
                  refine xw_aload_n C 1 d_Tb_spread_60 rfl rfl (pc' := 61) rfl ?_
                  refine xw_iload C 4 d_Tb_spread_61 rfl (pc' := 63) rfl ?_
                  refine xw_iald C 13 0 zr_13 rfl x rfl (by omega) (by decide) d_Tb_spread_63 (pc' := 64) rfl ?_
                  refine xw_topi (y := (-1)) hox ?_
                  refine xw_iconst C (v := (-1)) d_Tb_spread_64 (by decide) (pc' := 65) rfl ?_
                  refine xw_icmp_eq C (tgt := 70) d_Tb_spread_65 (by decide) (pc' := 68) rfl (fun h65 => ?_) (fun h65 => ?_)
                  ·
                    refine xw_aload_n C 1 d_Tb_spread_70 rfl rfl (pc' := 71) rfl ?_
                    refine xw_iload C 4 d_Tb_spread_71 rfl (pc' := 73) rfl ?_
                    refine xw_aload_n C 0 d_Tb_spread_73 rfl rfl (pc' := 74) rfl ?_
                    refine xw_get C u_Tb 3 zr_3 rfl 2 (by decide) k_142 rfl rfl d_Tb_spread_74 (pc' := 77) rfl ?_
                    refine xw_iload_n C 3 d_Tb_spread_77 rfl rfl (pc' := 78) rfl ?_
                    refine xw_iald C 6 0 zr_6 rfl i rfl (by omega) (by decide) d_Tb_spread_78 (pc' := 79) rfl ?_
                    refine xw_topi (y := nI (tk i)) (hS2.2.2 i (by omega)).2.2.1 ?_
                    obtain ⟨M101, hM101⟩ : ∃ zq, zq = zst M2 13 x (nI (tk i)) := ⟨_, rfl⟩
                    refine xw_iast C 13 0 zr_13 rfl x rfl (by omega) (by decide) (ws' := zW ca ad M101) (by rw [hM101]; exact zs_13 _ _) d_Tb_spread_79 (pc' := 80) rfl ?_
                    refine xw_iinc C 4 (v := nI (x + 1)) d_Tb_spread_80 rfl (xp_inc1 _) (by decide) rfl (pc' := 83) rfl ?_
                    refine xw_goto C (tgt := 42) d_Tb_spread_83 (by decide) ?_
                    refine xw_lv [1, 2, 3, 4, 0] rfl ?_
                    refine ih2 (st i + ln i - (x + 1)) (by omega) (x + 1) M101 rfl (by omega) (by omega) (fun a b h1 => by rw [hM101, zst_ap, if_neg (fun h9 => h1 h9.1)]; exact hf2 a b h1) (fun u hu => ?_) (fun u h1 h2 => ?_)
                    · rw [hM101, zst_ap]
                      by_cases c9 : u = x
                      · subst c9
                        rw [if_pos ⟨rfl, rfl⟩, if_pos ⟨by omega, by omega⟩]
                      · rw [if_neg (fun h9 => c9 h9.2), hv2 u hu]
                        by_cases c8 : st i ≤ u ∧ u < x
                        · rw [if_pos c8, if_pos ⟨c8.1, by omega⟩]
                        · rw [if_neg c8, if_neg (fun h9 => c8 ⟨h9.1, by omega⟩)]
                    · rcases Nat.lt_or_ge u x with c9 | c9
                      · exact hc2 u h1 c9
                      · rw [show u = x by omega]; exact hc9
                  ·
                    exact absurd rfl h65
                ·
                  have hox : M2 13 x = nI t9 := by rw [hx2, hax]; rfl
                  have ht9 : t9 < 6 := by obtain ⟨j, j1, j2⟩ := sp_at_in hax; have := hS.2.2 j (by omega); omega
                  have hc9 : sp_cov st ln i x ≠ 0 := fun h9 => by rw [sp_at_cov.mpr h9] at hax; cases hax
                  refine xw_aload_n C 1 d_Tb_spread_60 rfl rfl (pc' := 61) rfl ?_
                  refine xw_iload C 4 d_Tb_spread_61 rfl (pc' := 63) rfl ?_
                  refine xw_iald C 13 0 zr_13 rfl x rfl (by omega) (by decide) d_Tb_spread_63 (pc' := 64) rfl ?_
                  refine xw_topi (y := nI t9) hox ?_
                  refine xw_iconst C (v := (-1)) d_Tb_spread_64 (by decide) (pc' := 65) rfl ?_
                  refine xw_icmp_eq C (tgt := 70) d_Tb_spread_65 (by decide) (pc' := 68) rfl (fun h65 => ?_) (fun h65 => ?_)
                  ·
                    exact absurd h65 (xp_nem1 (by omega))
                  ·
                    refine xw_iconst C (v := nI 0) d_Tb_spread_68 (by decide) (pc' := 69) rfl ?_
                    refine xw_zret C hr hlk xp_n0 (F := zW ca ad) M2 rfl ?_ d_Tb_spread_69
                    refine ⟨hf2, Or.inr ⟨fun h9 => ?_, rfl⟩⟩
                    have q1 := h9.2 x (by omega)
                    have q2 := sp_cov_mono (st := st) (ln := ln) (c := x) (show i + 1 ≤ k by omega)
                    rw [sp_cov_1 ⟨by omega, by omega⟩] at q2
                    omega
          exact loop2 _ (st i) M1 rfl (by omega) (by omega) hf1 (fun u hu => by rw [if_neg (by omega)]; exact hv1 u hu) (fun u h1 h2 => by omega)
        ·
          replace h29 : ¬ (((st i) + (ln i)) ≤ h) := fun hneg => h29 ((nI_leI (by omega) (by omega)).mpr hneg)
          refine xw_iconst C (v := nI 0) d_Tb_spread_32 (by decide) (pc' := 33) rfl ?_
          refine xw_zret C hr hlk xp_n0 (F := zW ca ad) M1 rfl ?_ d_Tb_spread_33
          exact ⟨hf1, Or.inr ⟨fun h9 => by have := h9.1 i (by omega); omega, rfl⟩⟩
  refine xw_lvE (lv' := [(0, .ref (ad 3)), (1, .ref (ad 13)), (2, .int (nI h))]) rfl ?_
  refine xw_aload_n C 1 d_Tb_spread_0 rfl rfl (pc' := 1) rfl ?_
  refine xw_iconst C (v := (-1)) d_Tb_spread_1 (by decide) (pc' := 2) rfl ?_
  refine xw_callSv C (c_Ar_fill l D ca ad M 13 240 (-1) (by decide) (fun _ => rfl) (by decide)) ⟨zg_B C 2 k_469 k_38 k_365 q_Ar_fill ⟨by decide, by decide⟩, C.2.2.2.2.1 _ k_364⟩ (fun _ _ _ _ h => h) (fun _ _ _ _ _ _ _ => trivial) rfl rfl (Nat.le_of_ble_eq_true rfl) d_Tb_spread_2 ⟨by decide, by decide⟩ (pc' := 5) rfl (fun M2 hp3 => ?_)
  have hM2 := hp3
  refine xw_iconst C (v := nI 0) d_Tb_spread_5 (by decide) (pc' := 6) rfl ?_
  refine xw_istore_n C d_Tb_spread_6 rfl (by decide) rfl (pc' := 7) rfl ?_
  refine xw_lv [1, 2, 3, 0] rfl ?_
  exact loop1 k 0 M2 rfl (by omega) (fun a b h1 => by rw [hM2, zfl_ap, if_neg (fun h9 => h1 h9.1)]) (fun u hu => by rw [hM2, zfl_ap, if_pos ⟨rfl, hu⟩]; rfl) (fun j hj => by omega) (fun u hu => by show (0 : Nat) < 2; omega)
end
section
/-- the low k bits -/
def lowb (k : Nat) (x : Int32) : Nat := x.toBitVec.toNat % 2 ^ k
theorem lowb_lt (k : Nat) (x : Int32) : lowb k x < 2 ^ k := Nat.mod_lt _ (Nat.two_pow_pos k)
theorem lowb_2 (x : Int32) : x &&& nI 3 = nI (lowb 2 x) := pk_and x 2 (by decide +kernel)
theorem lowb_4 (x : Int32) : x &&& nI 15 = nI (lowb 4 x) := pk_and x 4 (by decide +kernel)
theorem lowb_6 (x : Int32) : x &&& nI 63 = nI (lowb 6 x) := pk_and x 6 (by decide +kernel)
theorem lowb_5 (x : Int32) : x &&& nI 31 = nI (lowb 5 x) := pk_and x 5 (by decide +kernel)
theorem lowb_nI {m : Nat} (h : m < 2 ^ 32) (k : Nat) : lowb k (nI m) = m % 2 ^ k := by
  unfold lowb
  rw [pk_tn h]
def mc_out (o : Nat) : Nat := if o = 0 then 1 else if o ≤ 10 then 0 else 2
/-- what an instruction does: kp, jp: where the place is; kr, ix: the registers; kw: the shared words -/
def zStp (o a b : Nat) (n : Int32) (M : Nat → Nat → Int32) (kp jp kr : Nat) (ix : Nat → Nat) (kw : Nat) : Nat → Nat → Int32 := match o with
  | 1 => zst M kr (ix a) n
  | 2 => zst M kr (ix a) (M kr (ix a) + M kr (ix b))
  | 3 => zst M kr (ix a) (M kr (ix a) - M kr (ix b))
  | 4 => zst M kr (ix a) (M kr (ix a) * M kr (ix b))
  | 5 => zst M kr (ix a) (M kw (lowb 4 (M kr (ix b))))
  | 6 => zst M kw (lowb 4 (M kr (ix b))) (M kr (ix a))
  | 7 => if M kr (ix a) = 0 then zst M kp jp (nI (lowb 6 n)) else M
  | 8 => if M kr (ix a) < 0 then zst M kp jp (nI (lowb 6 n)) else M
  | 9 => zst M kp jp (nI (lowb 6 n))
  | 10 => zst M kr (ix a) (M kr (ix a) + n)
  | _ => M

set_option maxHeartbeats 4000000 in
set_option maxRecDepth 100000 in
/-- placeOf -/
theorem c_Mc_placeOf (l : Launch) (D : va_G) (ca : Nat → ClassId) (ad : Nat → Nat) (M : Nat → Nat → Int32) (x : Int32)  : xw_Mi l y_Mc_placeOf (.code y_Mc_placeOf b_Mc_placeOf 1 (some .int) :: zG) { frames := 0, cells := 0, slots := 0, locals := 0 } D zCl (zT ca) [.int x] (zW ca ad M) (fun _ => True) 0 0 (zW ca ad) (fun r M' => M' = M ∧ r = nI (lowb 6 x)) := by
  intro sz
  refine xw_met (cc := b_Mc_placeOf) (maxL := 1) (ret := (some .int)) (by decide) rfl (Nat.le_of_ble_eq_true rfl) (fun p e s m args below meth c hr hlk hnm hsz hKs C => ?_)
  refine xw_lvE (lv' := [(0, .int x)]) rfl ?_
  refine xw_iload_n C 0 d_Mc_placeOf_0 rfl rfl (pc' := 1) rfl ?_
  refine xw_bipush C (v := nI 63) d_Mc_placeOf_1 (by decide) (pc' := 3) rfl ?_
  refine xw_iand C d_Mc_placeOf_3 (pc' := 4) rfl ?_
  refine xw_topi (y := nI (lowb 6 x)) (lowb_6 _) ?_
  refine xw_iret C hr hlk (F := zW ca ad) M rfl ?_ d_Mc_placeOf_4
  exact ⟨rfl, rfl⟩

set_option maxHeartbeats 4000000 in
set_option maxRecDepth 100000 in
/-- jumpIf -/
theorem c_Mc_jumpIf (l : Launch) (D : va_G) (ca : Nat → ClassId) (ad : Nat → Nat) (M : Nat → Nat → Int32) (t j : Nat) (n : Int32) (ht : t < 6) (hj : j ≤ 1) : xw_Mv l y_Mc_jumpIf (.code y_Mc_jumpIf b_Mc_jumpIf 3 none :: zG) { frames := 1, cells := 0, slots := 0, locals := 20 } D zCl (zT ca) [.int (nI j), .int n, .ref (ad (20 + t))] (zW ca ad M) (fun _ => True) 0 0 (zW ca ad) (fun M' => M' = if j = 0 then M else zst M (20 + t) 0 (nI (lowb 6 n))) := by
  intro sz
  refine xw_met (cc := b_Mc_jumpIf) (maxL := 3) (ret := none) (by decide) rfl (Nat.le_of_ble_eq_true rfl) (fun p e s m args below meth c hr hlk hnm hsz hKs C => ?_)
  refine xw_lvE (lv' := [(0, .int (nI j)), (1, .int n), (2, .ref (ad (20 + t)))]) rfl ?_
  refine xw_iload_n C 0 d_Mc_jumpIf_0 rfl rfl (pc' := 1) rfl ?_
  refine xw_if_eq C (tgt := 12) d_Mc_jumpIf_1 (by decide) (pc' := 4) rfl (fun h1 => ?_) (fun h1 => ?_)
  ·
    replace h1 : j = 0 := (xp_eq0 (by omega)).mp h1
    refine xw_vret C hr hlk (F := zW ca ad) M rfl ?_ d_Mc_jumpIf_12
    rw [if_pos h1]
  ·
    replace h1 : ¬ (j = 0) := fun hneg => h1 ((xp_eq0 (by omega)).mpr hneg)
    refine xw_aload_n C 2 d_Mc_jumpIf_4 rfl rfl (pc' := 5) rfl ?_
    refine xw_iload_n C 1 d_Mc_jumpIf_5 rfl rfl (pc' := 6) rfl ?_
    refine xw_callSi C (c_Mc_placeOf l D ca ad M n) ⟨zg_B C 1 k_531 k_30 k_533 q_Mc_placeOf ⟨by decide, by decide⟩, C.2.2.2.2.1 _ k_532⟩ (fun _ _ _ _ h => h) (fun _ _ _ _ _ _ _ => trivial) rfl rfl (Nat.le_of_ble_eq_true rfl) d_Mc_jumpIf_6 ⟨by decide, by decide⟩ (pc' := 9) rfl (fun r1 M2 hp3 => ?_)
    obtain ⟨hme, hre⟩ := hp3
    rw [hme, hre]
    clear hme hre
    obtain ⟨M4, hM4⟩ : ∃ zq, zq = zst M (20 + t) 0 (nI (lowb 6 n)) := ⟨_, rfl⟩
    refine xw_put C u_Jb t_Jb t_Jb_ok n_Jb (20 + t) (zr_Jb (t := t) (by omega)) rfl 1 (by decide) k_69 rfl rfl (t_Jb_ok 1 (by decide)) rfl rfl (Nat.le_of_ble_eq_true rfl) (ws' := zW ca ad M4) (by rw [hM4]; exact zs_Jb_0 (t := t) (by omega) _) d_Mc_jumpIf_9 (pc' := 12) rfl ?_
    refine xw_vret C hr hlk (F := zW ca ad) M4 rfl ?_ d_Mc_jumpIf_12
    rw [if_neg h1]; exact hM4

set_option maxHeartbeats 4000000 in
set_option maxRecDepth 100000 in
/-- step(job) -/
theorem c_Mc_step (l : Launch) (D : va_G) (ca : Nat → ClassId) (ad : Nat → Nat) (M : Nat → Nat → Int32) (t pl : Nat) (ht : t < 6) (hpl : M (20 + t) 0 = nI pl) (hpb : pl < 64) : xw_Mi l y_Mc_step (.code y_Mc_step b_Mc_step 7 (some .int) :: zG) { frames := 2, cells := 0, slots := 0, locals := 42 } D zCl (zT ca) [.ref (ad 10), .ref (ad (20 + t))] (zW ca ad M) (fun _ => True) 0 0 (zW ca ad) (fun r M' => M' = zStp (lowb 4 (M 11 pl)) (lowb 2 ((M 11 pl) >>> (nI 4 &&& 31))) (lowb 2 ((M 11 pl) >>> (nI 6 &&& 31))) ((M 11 pl) >>> (nI 8 &&& 31)) (zst M (20 + t) 0 (nI ((pl + 1) % 64))) (20 + t) 0 (26 + t) (fun a => a) 12 ∧ r = nI (mc_out (lowb 4 (M 11 pl)))) := by
  intro sz
  refine xw_met (cc := b_Mc_step) (maxL := 7) (ret := (some .int)) (by decide) rfl (Nat.le_of_ble_eq_true rfl) (fun p e s m args below meth c hr hlk hnm hsz hKs C => ?_)
  refine xw_lvE (lv' := [(0, .ref (ad 10)), (1, .ref (ad (20 + t)))]) rfl ?_
  refine xw_aload_n C 0 d_Mc_step_0 rfl rfl (pc' := 1) rfl ?_
  refine xw_get C u_Mc 10 zr_10 rfl 0 (by decide) k_173 rfl rfl d_Mc_step_1 (pc' := 4) rfl ?_
  refine xw_aload_n C 1 d_Mc_step_4 rfl rfl (pc' := 5) rfl ?_
  refine xw_get C u_Jb (20 + t) (zr_Jb (t := t) (by omega)) rfl 1 (by decide) k_69 rfl rfl d_Mc_step_5 (pc' := 8) rfl ?_
  refine xw_topi (y := nI pl) hpl ?_
  refine xw_iald C 11 0 zr_11 rfl pl rfl (by omega) (by decide) d_Mc_step_8 (pc' := 9) rfl ?_
  obtain ⟨v, h_v⟩ : ∃ z, z = M 11 pl := ⟨_, rfl⟩
  refine xw_topi (y := v) h_v.symm ?_
  refine xw_istore_n C d_Mc_step_9 rfl (by decide) rfl (pc' := 10) rfl ?_
  refine xw_aload_n C 2 d_Mc_step_10 rfl rfl (pc' := 11) rfl ?_
  refine xw_aload_n C 2 d_Mc_step_11 rfl rfl (pc' := 12) rfl ?_
  refine xw_get C u_Jb (20 + t) (zr_Jb (t := t) (by omega)) rfl 1 (by decide) k_69 rfl rfl d_Mc_step_12 (pc' := 15) rfl ?_
  refine xw_topi (y := nI pl) hpl ?_
  refine xw_iconst C (v := nI 1) d_Mc_step_15 (by decide) (pc' := 16) rfl ?_
  refine xw_iadd C d_Mc_step_16 (pc' := 17) rfl ?_
  refine xw_topi (y := nI (pl + 1)) (nI_add _ _) ?_
  refine xw_callSi C (c_Mc_placeOf l D ca ad M (nI (pl + 1))) ⟨zg_B C 1 k_531 k_30 k_533 q_Mc_placeOf ⟨by decide, by decide⟩, C.2.2.2.2.1 _ k_532⟩ (fun _ _ _ _ h => h) (fun _ _ _ _ _ _ _ => trivial) rfl rfl (Nat.le_of_ble_eq_true rfl) d_Mc_step_17 ⟨by decide, by decide⟩ (pc' := 20) rfl (fun r1 M2 hp3 => ?_)
  obtain ⟨hme, hre⟩ := hp3
  rw [hme, hre]
  clear hme hre
  refine xw_topi (y := nI ((pl + 1) % 64)) (by rw [lowb_nI (by omega)]) ?_
  obtain ⟨M4, hM4⟩ : ∃ zq, zq = zst M (20 + t) 0 (nI ((pl + 1) % 64)) := ⟨_, rfl⟩
  refine xw_put C u_Jb t_Jb t_Jb_ok n_Jb (20 + t) (zr_Jb (t := t) (by omega)) rfl 1 (by decide) k_69 rfl rfl (t_Jb_ok 1 (by decide)) rfl rfl (Nat.le_of_ble_eq_true rfl) (ws' := zW ca ad M4) (by rw [hM4]; exact zs_Jb_0 (t := t) (by omega) _) d_Mc_step_20 (pc' := 23) rfl ?_
  refine xw_iload_n C 0 d_Mc_step_23 rfl rfl (pc' := 24) rfl ?_
  refine xw_iconst C (v := nI 4) d_Mc_step_24 (by decide) (pc' := 25) rfl ?_
  refine xw_ishr C d_Mc_step_25 (pc' := 26) rfl ?_
  refine xw_iconst C (v := nI 3) d_Mc_step_26 (by decide) (pc' := 27) rfl ?_
  obtain ⟨a, ha⟩ : ∃ zq, zq = lowb 2 (v >>> (nI 4 &&& 31)) := ⟨_, rfl⟩
  have hal : a < 4 := by rw [ha]; exact lowb_lt 2 _
  refine xw_iand C d_Mc_step_27 (pc' := 28) rfl ?_
  refine xw_topi (y := nI a) (by rw [ha]; exact lowb_2 _) ?_
  refine xw_istore_n C d_Mc_step_28 rfl (by decide) rfl (pc' := 29) rfl ?_
  refine xw_iload_n C 1 d_Mc_step_29 rfl rfl (pc' := 30) rfl ?_
  refine xw_bipush C (v := nI 6) d_Mc_step_30 (by decide) (pc' := 32) rfl ?_
  refine xw_ishr C d_Mc_step_32 (pc' := 33) rfl ?_
  refine xw_iconst C (v := nI 3) d_Mc_step_33 (by decide) (pc' := 34) rfl ?_
  obtain ⟨b, hb⟩ : ∃ zq, zq = lowb 2 (v >>> (nI 6 &&& 31)) := ⟨_, rfl⟩
  have hbl : b < 4 := by rw [hb]; exact lowb_lt 2 _
  refine xw_iand C d_Mc_step_34 (pc' := 35) rfl ?_
  refine xw_topi (y := nI b) (by rw [hb]; exact lowb_2 _) ?_
  refine xw_istore C d_Mc_step_35 (by decide) rfl (pc' := 37) rfl ?_
  refine xw_iload_n C 2 d_Mc_step_37 rfl rfl (pc' := 38) rfl ?_
  refine xw_bipush C (v := nI 8) d_Mc_step_38 (by decide) (pc' := 40) rfl ?_
  refine xw_ishr C d_Mc_step_40 (pc' := 41) rfl ?_
  obtain ⟨nn, h_nn⟩ : ∃ z, z = v >>> ((nI 8) &&& 31) := ⟨_, rfl⟩
  refine xw_topi (y := nn) h_nn.symm ?_
  refine xw_istore C d_Mc_step_41 (by decide) rfl (pc' := 43) rfl ?_
  refine xw_aload_n C 5 d_Mc_step_43 rfl rfl (pc' := 44) rfl ?_
  refine xw_get C u_Jb (20 + t) (zr_Jb (t := t) (by omega)) rfl 0 (by decide) k_68 rfl rfl d_Mc_step_44 (pc' := 47) rfl ?_
  refine xw_astore C d_Mc_step_47 (by decide) rfl (pc' := 49) rfl ?_
  refine xw_iload_n C 4 d_Mc_step_49 rfl rfl (pc' := 50) rfl ?_
  refine xw_bipush C (v := nI 15) d_Mc_step_50 (by decide) (pc' := 52) rfl ?_
  obtain ⟨o, ho⟩ : ∃ zq, zq = lowb 4 v := ⟨_, rfl⟩
  have hol : o < 16 := by rw [ho]; exact lowb_lt 4 _
  refine xw_iand C d_Mc_step_52 (pc' := 53) rfl ?_
  refine xw_topi (y := nI o) (by rw [ho]; exact lowb_4 _) ?_
  rcases (show o = 0 ∨ o = 1 ∨ o = 2 ∨ o = 3 ∨ o = 4 ∨ o = 5 ∨ o = 6 ∨ o = 7 ∨ o = 8 ∨ o = 9 ∨ o = 10 ∨ o = 11 ∨ o = 12 ∨ o = 13 ∨ o = 14 ∨ o = 15 by omega) with rfl | rfl | rfl | rfl | rfl | rfl | rfl | rfl | rfl | rfl | rfl | rfl | rfl | rfl | rfl | rfl
  ·
    refine xw_tableIn C (off := 59) (tgt := 112) d_Mc_step_53 (by decide) (by decide) (by decide) (by decide) ?_
    refine xw_iconst C (v := nI 1) d_Mc_step_112 (by decide) (pc' := 113) rfl ?_
    refine xw_iret C hr hlk (F := zW ca ad) M4 rfl ?_ d_Mc_step_113
    refine ⟨?_, ?_⟩
    · rw [← h_v, ← ho, ← ha, ← hb, ← h_nn, hM4]
      rfl
    · rw [← h_v, ← ho]; rfl
  ·
    refine xw_tableIn C (off := 61) (tgt := 114) d_Mc_step_53 (by decide) (by decide) (by decide) (by decide) ?_
    refine xw_aload C 0 d_Mc_step_114 rfl (pc' := 116) rfl ?_
    refine xw_iload_n C 3 d_Mc_step_116 rfl rfl (pc' := 117) rfl ?_
    refine xw_iload C 1 d_Mc_step_117 rfl (pc' := 119) rfl ?_
    obtain ⟨M5, hM5⟩ : ∃ zq, zq = zst M4 (26 + t) a nn := ⟨_, rfl⟩
    refine xw_iast C (26 + t) 0 (zr_rg (t := t) (by omega)) rfl a rfl (by omega) (by decide) (ws' := zW ca ad M5) (by rw [hM5]; exact zs_rg (t := t) (by omega) _ _) d_Mc_step_119 (pc' := 120) rfl ?_
    refine xw_goto C (tgt := 274) d_Mc_step_120 (by decide) ?_
    refine xw_iconst C (v := nI 0) d_Mc_step_274 (by decide) (pc' := 275) rfl ?_
    refine xw_iret C hr hlk (F := zW ca ad) M5 rfl ?_ d_Mc_step_275
    refine ⟨?_, ?_⟩
    · rw [← h_v, ← ho, ← ha, ← hb, ← h_nn, hM5, hM4]
      rfl
    · rw [← h_v, ← ho]; rfl
  ·
    refine xw_tableIn C (off := 70) (tgt := 123) d_Mc_step_53 (by decide) (by decide) (by decide) (by decide) ?_
    refine xw_aload C 0 d_Mc_step_123 rfl (pc' := 125) rfl ?_
    refine xw_iload_n C 3 d_Mc_step_125 rfl rfl (pc' := 126) rfl ?_
    refine xw_dup2_11 C d_Mc_step_126 rfl rfl (pc' := 127) rfl ?_
    refine xw_iald C (26 + t) 0 (zr_rg (t := t) (by omega)) rfl a rfl (by omega) (by decide) d_Mc_step_127 (pc' := 128) rfl ?_
    refine xw_aload C 0 d_Mc_step_128 rfl (pc' := 130) rfl ?_
    refine xw_iload C 2 d_Mc_step_130 rfl (pc' := 132) rfl ?_
    refine xw_iald C (26 + t) 0 (zr_rg (t := t) (by omega)) rfl b rfl (by omega) (by decide) d_Mc_step_132 (pc' := 133) rfl ?_
    refine xw_iadd C d_Mc_step_133 (pc' := 134) rfl ?_
    obtain ⟨M6, hM6⟩ : ∃ zq, zq = zst M4 (26 + t) a ((M4 (26 + t) a) + (M4 (26 + t) b)) := ⟨_, rfl⟩
    refine xw_iast C (26 + t) 0 (zr_rg (t := t) (by omega)) rfl a rfl (by omega) (by decide) (ws' := zW ca ad M6) (by rw [hM6]; exact zs_rg (t := t) (by omega) _ _) d_Mc_step_134 (pc' := 135) rfl ?_
    refine xw_goto C (tgt := 274) d_Mc_step_135 (by decide) ?_
    refine xw_iconst C (v := nI 0) d_Mc_step_274 (by decide) (pc' := 275) rfl ?_
    refine xw_iret C hr hlk (F := zW ca ad) M6 rfl ?_ d_Mc_step_275
    refine ⟨?_, ?_⟩
    · rw [← h_v, ← ho, ← ha, ← hb, ← h_nn, hM6, hM4]
      rfl
    · rw [← h_v, ← ho]; rfl
  ·
    refine xw_tableIn C (off := 85) (tgt := 138) d_Mc_step_53 (by decide) (by decide) (by decide) (by decide) ?_
    refine xw_aload C 0 d_Mc_step_138 rfl (pc' := 140) rfl ?_
    refine xw_iload_n C 3 d_Mc_step_140 rfl rfl (pc' := 141) rfl ?_
    refine xw_dup2_11 C d_Mc_step_141 rfl rfl (pc' := 142) rfl ?_
    refine xw_iald C (26 + t) 0 (zr_rg (t := t) (by omega)) rfl a rfl (by omega) (by decide) d_Mc_step_142 (pc' := 143) rfl ?_
    refine xw_aload C 0 d_Mc_step_143 rfl (pc' := 145) rfl ?_
    refine xw_iload C 2 d_Mc_step_145 rfl (pc' := 147) rfl ?_
    refine xw_iald C (26 + t) 0 (zr_rg (t := t) (by omega)) rfl b rfl (by omega) (by decide) d_Mc_step_147 (pc' := 148) rfl ?_
    refine xw_isub C d_Mc_step_148 (pc' := 149) rfl ?_
    obtain ⟨M7, hM7⟩ : ∃ zq, zq = zst M4 (26 + t) a ((M4 (26 + t) a) - (M4 (26 + t) b)) := ⟨_, rfl⟩
    refine xw_iast C (26 + t) 0 (zr_rg (t := t) (by omega)) rfl a rfl (by omega) (by decide) (ws' := zW ca ad M7) (by rw [hM7]; exact zs_rg (t := t) (by omega) _ _) d_Mc_step_149 (pc' := 150) rfl ?_
    refine xw_goto C (tgt := 274) d_Mc_step_150 (by decide) ?_
    refine xw_iconst C (v := nI 0) d_Mc_step_274 (by decide) (pc' := 275) rfl ?_
    refine xw_iret C hr hlk (F := zW ca ad) M7 rfl ?_ d_Mc_step_275
    refine ⟨?_, ?_⟩
    · rw [← h_v, ← ho, ← ha, ← hb, ← h_nn, hM7, hM4]
      rfl
    · rw [← h_v, ← ho]; rfl
  ·
    refine xw_tableIn C (off := 100) (tgt := 153) d_Mc_step_53 (by decide) (by decide) (by decide) (by decide) ?_
    refine xw_aload C 0 d_Mc_step_153 rfl (pc' := 155) rfl ?_
    refine xw_iload_n C 3 d_Mc_step_155 rfl rfl (pc' := 156) rfl ?_
    refine xw_dup2_11 C d_Mc_step_156 rfl rfl (pc' := 157) rfl ?_
    refine xw_iald C (26 + t) 0 (zr_rg (t := t) (by omega)) rfl a rfl (by omega) (by decide) d_Mc_step_157 (pc' := 158) rfl ?_
    refine xw_aload C 0 d_Mc_step_158 rfl (pc' := 160) rfl ?_
    refine xw_iload C 2 d_Mc_step_160 rfl (pc' := 162) rfl ?_
    refine xw_iald C (26 + t) 0 (zr_rg (t := t) (by omega)) rfl b rfl (by omega) (by decide) d_Mc_step_162 (pc' := 163) rfl ?_
    refine xw_imul C d_Mc_step_163 (pc' := 164) rfl ?_
    obtain ⟨M8, hM8⟩ : ∃ zq, zq = zst M4 (26 + t) a ((M4 (26 + t) a) * (M4 (26 + t) b)) := ⟨_, rfl⟩
    refine xw_iast C (26 + t) 0 (zr_rg (t := t) (by omega)) rfl a rfl (by omega) (by decide) (ws' := zW ca ad M8) (by rw [hM8]; exact zs_rg (t := t) (by omega) _ _) d_Mc_step_164 (pc' := 165) rfl ?_
    refine xw_goto C (tgt := 274) d_Mc_step_165 (by decide) ?_
    refine xw_iconst C (v := nI 0) d_Mc_step_274 (by decide) (pc' := 275) rfl ?_
    refine xw_iret C hr hlk (F := zW ca ad) M8 rfl ?_ d_Mc_step_275
    refine ⟨?_, ?_⟩
    · rw [← h_v, ← ho, ← ha, ← hb, ← h_nn, hM8, hM4]
      rfl
    · rw [← h_v, ← ho]; rfl
  ·
    refine xw_tableIn C (off := 115) (tgt := 168) d_Mc_step_53 (by decide) (by decide) (by decide) (by decide) ?_
    refine xw_aload C 0 d_Mc_step_168 rfl (pc' := 170) rfl ?_
    refine xw_iload_n C 3 d_Mc_step_170 rfl rfl (pc' := 171) rfl ?_
    refine xw_aload_n C 5 d_Mc_step_171 rfl rfl (pc' := 172) rfl ?_
    refine xw_get C u_Mc 10 zr_10 rfl 1 (by decide) k_175 rfl rfl d_Mc_step_172 (pc' := 175) rfl ?_
    refine xw_aload C 0 d_Mc_step_175 rfl (pc' := 177) rfl ?_
    refine xw_iload C 2 d_Mc_step_177 rfl (pc' := 179) rfl ?_
    refine xw_iald C (26 + t) 0 (zr_rg (t := t) (by omega)) rfl b rfl (by omega) (by decide) d_Mc_step_179 (pc' := 180) rfl ?_
    refine xw_bipush C (v := nI 15) d_Mc_step_180 (by decide) (pc' := 182) rfl ?_
    refine xw_iand C d_Mc_step_182 (pc' := 183) rfl ?_
    refine xw_topi (y := nI (lowb 4 (M4 (26 + t) b))) (lowb_4 _) ?_
    refine xw_iald C 12 0 zr_12 rfl (lowb 4 (M4 (26 + t) b)) rfl (lowb_lt 4 _) (by decide) d_Mc_step_183 (pc' := 184) rfl ?_
    obtain ⟨M9, hM9⟩ : ∃ zq, zq = zst M4 (26 + t) a (M4 12 (lowb 4 (M4 (26 + t) b))) := ⟨_, rfl⟩
    refine xw_iast C (26 + t) 0 (zr_rg (t := t) (by omega)) rfl a rfl (by omega) (by decide) (ws' := zW ca ad M9) (by rw [hM9]; exact zs_rg (t := t) (by omega) _ _) d_Mc_step_184 (pc' := 185) rfl ?_
    refine xw_goto C (tgt := 274) d_Mc_step_185 (by decide) ?_
    refine xw_iconst C (v := nI 0) d_Mc_step_274 (by decide) (pc' := 275) rfl ?_
    refine xw_iret C hr hlk (F := zW ca ad) M9 rfl ?_ d_Mc_step_275
    refine ⟨?_, ?_⟩
    · rw [← h_v, ← ho, ← ha, ← hb, ← h_nn, hM9, hM4]
      rfl
    · rw [← h_v, ← ho]; rfl
  ·
    refine xw_tableIn C (off := 135) (tgt := 188) d_Mc_step_53 (by decide) (by decide) (by decide) (by decide) ?_
    refine xw_aload_n C 5 d_Mc_step_188 rfl rfl (pc' := 189) rfl ?_
    refine xw_get C u_Mc 10 zr_10 rfl 1 (by decide) k_175 rfl rfl d_Mc_step_189 (pc' := 192) rfl ?_
    refine xw_aload C 0 d_Mc_step_192 rfl (pc' := 194) rfl ?_
    refine xw_iload C 2 d_Mc_step_194 rfl (pc' := 196) rfl ?_
    refine xw_iald C (26 + t) 0 (zr_rg (t := t) (by omega)) rfl b rfl (by omega) (by decide) d_Mc_step_196 (pc' := 197) rfl ?_
    refine xw_bipush C (v := nI 15) d_Mc_step_197 (by decide) (pc' := 199) rfl ?_
    refine xw_iand C d_Mc_step_199 (pc' := 200) rfl ?_
    refine xw_topi (y := nI (lowb 4 (M4 (26 + t) b))) (lowb_4 _) ?_
    refine xw_aload C 0 d_Mc_step_200 rfl (pc' := 202) rfl ?_
    refine xw_iload_n C 3 d_Mc_step_202 rfl rfl (pc' := 203) rfl ?_
    refine xw_iald C (26 + t) 0 (zr_rg (t := t) (by omega)) rfl a rfl (by omega) (by decide) d_Mc_step_203 (pc' := 204) rfl ?_
    obtain ⟨M10, hM10⟩ : ∃ zq, zq = zst M4 12 (lowb 4 (M4 (26 + t) b)) (M4 (26 + t) a) := ⟨_, rfl⟩
    refine xw_iast C 12 0 zr_12 rfl (lowb 4 (M4 (26 + t) b)) rfl (lowb_lt 4 _) (by decide) (ws' := zW ca ad M10) (by rw [hM10]; exact zs_12 _ _) d_Mc_step_204 (pc' := 205) rfl ?_
    refine xw_goto C (tgt := 274) d_Mc_step_205 (by decide) ?_
    refine xw_iconst C (v := nI 0) d_Mc_step_274 (by decide) (pc' := 275) rfl ?_
    refine xw_iret C hr hlk (F := zW ca ad) M10 rfl ?_ d_Mc_step_275
    refine ⟨?_, ?_⟩
    · rw [← h_v, ← ho, ← ha, ← hb, ← h_nn, hM10, hM4]
      rfl
    · rw [← h_v, ← ho]; rfl
  ·
    refine xw_tableIn C (off := 155) (tgt := 208) d_Mc_step_53 (by decide) (by decide) (by decide) (by decide) ?_
    refine xw_aload C 0 d_Mc_step_208 rfl (pc' := 210) rfl ?_
    refine xw_iload_n C 3 d_Mc_step_210 rfl rfl (pc' := 211) rfl ?_
    refine xw_iald C (26 + t) 0 (zr_rg (t := t) (by omega)) rfl a rfl (by omega) (by decide) d_Mc_step_211 (pc' := 212) rfl ?_
    refine xw_if_ne C (tgt := 219) d_Mc_step_212 (by decide) (pc' := 215) rfl (fun h212 => ?_) (fun h212 => ?_)
    ·
      refine xw_iconst C (v := nI 0) d_Mc_step_219 (by decide) (pc' := 220) rfl ?_
      refine xw_iload C 1 d_Mc_step_220 rfl (pc' := 222) rfl ?_
      refine xw_aload_n C 6 d_Mc_step_222 rfl rfl (pc' := 223) rfl ?_
      refine xw_callSv C (c_Mc_jumpIf l D ca ad M4 t 0 nn (by omega) (by omega)) ⟨zg_B C 3 k_534 k_30 k_536 q_Mc_jumpIf ⟨by decide, by decide⟩, C.2.2.2.2.1 _ k_535⟩ (fun _ _ _ _ h => h) (fun _ _ _ _ _ _ _ => trivial) rfl rfl (Nat.le_of_ble_eq_true rfl) d_Mc_step_223 ⟨by decide, by decide⟩ (pc' := 226) rfl (fun M12 hp13 => ?_)
      have hM12 := hp13
      rw [if_pos rfl] at hM12
      refine xw_goto C (tgt := 274) d_Mc_step_226 (by decide) ?_
      refine xw_iconst C (v := nI 0) d_Mc_step_274 (by decide) (pc' := 275) rfl ?_
      refine xw_iret C hr hlk (F := zW ca ad) M12 rfl ?_ d_Mc_step_275
      refine ⟨?_, ?_⟩
      · rw [← h_v, ← ho, ← ha, ← hb, ← h_nn, hM12, hM4]
        rw [hM4] at h212; exact (if_neg h212).symm
      · rw [← h_v, ← ho]; rfl
    ·
      refine xw_iconst C (v := nI 1) d_Mc_step_215 (by decide) (pc' := 216) rfl ?_
      refine xw_goto C (tgt := 220) d_Mc_step_216 (by decide) ?_
      refine xw_iload C 1 d_Mc_step_220 rfl (pc' := 222) rfl ?_
      refine xw_aload_n C 6 d_Mc_step_222 rfl rfl (pc' := 223) rfl ?_
      refine xw_callSv C (c_Mc_jumpIf l D ca ad M4 t 1 nn (by omega) (by omega)) ⟨zg_B C 3 k_534 k_30 k_536 q_Mc_jumpIf ⟨by decide, by decide⟩, C.2.2.2.2.1 _ k_535⟩ (fun _ _ _ _ h => h) (fun _ _ _ _ _ _ _ => trivial) rfl rfl (Nat.le_of_ble_eq_true rfl) d_Mc_step_223 ⟨by decide, by decide⟩ (pc' := 226) rfl (fun M15 hp16 => ?_)
      have hM15 := hp16
      rw [if_neg (by decide)] at hM15
      refine xw_goto C (tgt := 274) d_Mc_step_226 (by decide) ?_
      refine xw_iconst C (v := nI 0) d_Mc_step_274 (by decide) (pc' := 275) rfl ?_
      refine xw_iret C hr hlk (F := zW ca ad) M15 rfl ?_ d_Mc_step_275
      refine ⟨?_, ?_⟩
      · rw [← h_v, ← ho, ← ha, ← hb, ← h_nn, hM15, hM4]
        rw [hM4] at h212; exact (if_pos h212).symm
      · rw [← h_v, ← ho]; rfl
  ·
    refine xw_tableIn C (off := 176) (tgt := 229) d_Mc_step_53 (by decide) (by decide) (by decide) (by decide) ?_
    refine xw_aload C 0 d_Mc_step_229 rfl (pc' := 231) rfl ?_
    refine xw_iload_n C 3 d_Mc_step_231 rfl rfl (pc' := 232) rfl ?_
    refine xw_iald C (26 + t) 0 (zr_rg (t := t) (by omega)) rfl a rfl (by omega) (by decide) d_Mc_step_232 (pc' := 233) rfl ?_
    refine xw_if_ge C (tgt := 240) d_Mc_step_233 (by decide) (pc' := 236) rfl (fun h233 => ?_) (fun h233 => ?_)
    ·
      refine xw_iconst C (v := nI 0) d_Mc_step_240 (by decide) (pc' := 241) rfl ?_
      refine xw_iload C 1 d_Mc_step_241 rfl (pc' := 243) rfl ?_
      refine xw_aload_n C 6 d_Mc_step_243 rfl rfl (pc' := 244) rfl ?_
      refine xw_callSv C (c_Mc_jumpIf l D ca ad M4 t 0 nn (by omega) (by omega)) ⟨zg_B C 3 k_534 k_30 k_536 q_Mc_jumpIf ⟨by decide, by decide⟩, C.2.2.2.2.1 _ k_535⟩ (fun _ _ _ _ h => h) (fun _ _ _ _ _ _ _ => trivial) rfl rfl (Nat.le_of_ble_eq_true rfl) d_Mc_step_244 ⟨by decide, by decide⟩ (pc' := 247) rfl (fun M18 hp19 => ?_)
      have hM18 := hp19
      rw [if_pos rfl] at hM18
      refine xw_goto C (tgt := 274) d_Mc_step_247 (by decide) ?_
      refine xw_iconst C (v := nI 0) d_Mc_step_274 (by decide) (pc' := 275) rfl ?_
      refine xw_iret C hr hlk (F := zW ca ad) M18 rfl ?_ d_Mc_step_275
      refine ⟨?_, ?_⟩
      · rw [← h_v, ← ho, ← ha, ← hb, ← h_nn, hM18, hM4]
        rw [hM4] at h233; exact (if_neg (Int32.not_lt.mpr h233)).symm
      · rw [← h_v, ← ho]; rfl
    ·
      refine xw_iconst C (v := nI 1) d_Mc_step_236 (by decide) (pc' := 237) rfl ?_
      refine xw_goto C (tgt := 241) d_Mc_step_237 (by decide) ?_
      refine xw_iload C 1 d_Mc_step_241 rfl (pc' := 243) rfl ?_
      refine xw_aload_n C 6 d_Mc_step_243 rfl rfl (pc' := 244) rfl ?_
      refine xw_callSv C (c_Mc_jumpIf l D ca ad M4 t 1 nn (by omega) (by omega)) ⟨zg_B C 3 k_534 k_30 k_536 q_Mc_jumpIf ⟨by decide, by decide⟩, C.2.2.2.2.1 _ k_535⟩ (fun _ _ _ _ h => h) (fun _ _ _ _ _ _ _ => trivial) rfl rfl (Nat.le_of_ble_eq_true rfl) d_Mc_step_244 ⟨by decide, by decide⟩ (pc' := 247) rfl (fun M21 hp22 => ?_)
      have hM21 := hp22
      rw [if_neg (by decide)] at hM21
      refine xw_goto C (tgt := 274) d_Mc_step_247 (by decide) ?_
      refine xw_iconst C (v := nI 0) d_Mc_step_274 (by decide) (pc' := 275) rfl ?_
      refine xw_iret C hr hlk (F := zW ca ad) M21 rfl ?_ d_Mc_step_275
      refine ⟨?_, ?_⟩
      · rw [← h_v, ← ho, ← ha, ← hb, ← h_nn, hM21, hM4]
        rw [hM4] at h233; exact (if_pos (Int32.not_le.mp h233)).symm
      · rw [← h_v, ← ho]; rfl
  ·
    refine xw_tableIn C (off := 197) (tgt := 250) d_Mc_step_53 (by decide) (by decide) (by decide) (by decide) ?_
    refine xw_iconst C (v := nI 1) d_Mc_step_250 (by decide) (pc' := 251) rfl ?_
    refine xw_iload C 1 d_Mc_step_251 rfl (pc' := 253) rfl ?_
    refine xw_aload_n C 6 d_Mc_step_253 rfl rfl (pc' := 254) rfl ?_
    refine xw_callSv C (c_Mc_jumpIf l D ca ad M4 t 1 nn (by omega) (by omega)) ⟨zg_B C 3 k_534 k_30 k_536 q_Mc_jumpIf ⟨by decide, by decide⟩, C.2.2.2.2.1 _ k_535⟩ (fun _ _ _ _ h => h) (fun _ _ _ _ _ _ _ => trivial) rfl rfl (Nat.le_of_ble_eq_true rfl) d_Mc_step_254 ⟨by decide, by decide⟩ (pc' := 257) rfl (fun M24 hp25 => ?_)
    have hM24 := hp25
    rw [if_neg (by decide)] at hM24
    refine xw_goto C (tgt := 274) d_Mc_step_257 (by decide) ?_
    refine xw_iconst C (v := nI 0) d_Mc_step_274 (by decide) (pc' := 275) rfl ?_
    refine xw_iret C hr hlk (F := zW ca ad) M24 rfl ?_ d_Mc_step_275
    refine ⟨?_, ?_⟩
    · rw [← h_v, ← ho, ← ha, ← hb, ← h_nn, hM24, hM4]
      rfl
    · rw [← h_v, ← ho]; rfl
  ·
    refine xw_tableIn C (off := 207) (tgt := 260) d_Mc_step_53 (by decide) (by decide) (by decide) (by decide) ?_
    refine xw_aload C 0 d_Mc_step_260 rfl (pc' := 262) rfl ?_
    refine xw_iload_n C 3 d_Mc_step_262 rfl rfl (pc' := 263) rfl ?_
    refine xw_dup2_11 C d_Mc_step_263 rfl rfl (pc' := 264) rfl ?_
    refine xw_iald C (26 + t) 0 (zr_rg (t := t) (by omega)) rfl a rfl (by omega) (by decide) d_Mc_step_264 (pc' := 265) rfl ?_
    refine xw_iload C 1 d_Mc_step_265 rfl (pc' := 267) rfl ?_
    refine xw_iadd C d_Mc_step_267 (pc' := 268) rfl ?_
    obtain ⟨M26, hM26⟩ : ∃ zq, zq = zst M4 (26 + t) a ((M4 (26 + t) a) + nn) := ⟨_, rfl⟩
    refine xw_iast C (26 + t) 0 (zr_rg (t := t) (by omega)) rfl a rfl (by omega) (by decide) (ws' := zW ca ad M26) (by rw [hM26]; exact zs_rg (t := t) (by omega) _ _) d_Mc_step_268 (pc' := 269) rfl ?_
    refine xw_goto C (tgt := 274) d_Mc_step_269 (by decide) ?_
    refine xw_iconst C (v := nI 0) d_Mc_step_274 (by decide) (pc' := 275) rfl ?_
    refine xw_iret C hr hlk (F := zW ca ad) M26 rfl ?_ d_Mc_step_275
    refine ⟨?_, ?_⟩
    · rw [← h_v, ← ho, ← ha, ← hb, ← h_nn, hM26, hM4]
      rfl
    · rw [← h_v, ← ho]; rfl
  ·
    refine xw_tableOut C (tgt := 272) d_Mc_step_53 (by decide) (by decide) ?_
    refine xw_iconst C (v := nI 2) d_Mc_step_272 (by decide) (pc' := 273) rfl ?_
    refine xw_iret C hr hlk (F := zW ca ad) M4 rfl ?_ d_Mc_step_273
    refine ⟨?_, ?_⟩
    · rw [← h_v, ← ho, ← ha, ← hb, ← h_nn, hM4]
      rfl
    · rw [← h_v, ← ho]; rfl
  ·
    refine xw_tableOut C (tgt := 272) d_Mc_step_53 (by decide) (by decide) ?_
    refine xw_iconst C (v := nI 2) d_Mc_step_272 (by decide) (pc' := 273) rfl ?_
    refine xw_iret C hr hlk (F := zW ca ad) M4 rfl ?_ d_Mc_step_273
    refine ⟨?_, ?_⟩
    · rw [← h_v, ← ho, ← ha, ← hb, ← h_nn, hM4]
      rfl
    · rw [← h_v, ← ho]; rfl
  ·
    refine xw_tableOut C (tgt := 272) d_Mc_step_53 (by decide) (by decide) ?_
    refine xw_iconst C (v := nI 2) d_Mc_step_272 (by decide) (pc' := 273) rfl ?_
    refine xw_iret C hr hlk (F := zW ca ad) M4 rfl ?_ d_Mc_step_273
    refine ⟨?_, ?_⟩
    · rw [← h_v, ← ho, ← ha, ← hb, ← h_nn, hM4]
      rfl
    · rw [← h_v, ← ho]; rfl
  ·
    refine xw_tableOut C (tgt := 272) d_Mc_step_53 (by decide) (by decide) ?_
    refine xw_iconst C (v := nI 2) d_Mc_step_272 (by decide) (pc' := 273) rfl ?_
    refine xw_iret C hr hlk (F := zW ca ad) M4 rfl ?_ d_Mc_step_273
    refine ⟨?_, ?_⟩
    · rw [← h_v, ← ho, ← ha, ← hb, ← h_nn, hM4]
      rfl
    · rw [← h_v, ← ho]; rfl
  ·
    refine xw_tableOut C (tgt := 272) d_Mc_step_53 (by decide) (by decide) ?_
    refine xw_iconst C (v := nI 2) d_Mc_step_272 (by decide) (pc' := 273) rfl ?_
    refine xw_iret C hr hlk (F := zW ca ad) M4 rfl ?_ d_Mc_step_273
    refine ⟨?_, ?_⟩
    · rw [← h_v, ← ho, ← ha, ← hb, ← h_nn, hM4]
      rfl
    · rw [← h_v, ← ho]; rfl
end
section
def zForN (M : Nat → Nat → Int32) : Nat → Nat → Nat → Int32
  | 0 => M
  | i + 1 => zFor (zForN M i) i
theorem zFor_out {M : Nat → Nat → Int32} {t a b : Nat} (h1 : a ≠ 20 + t) (h2 : a ≠ 32 + t) : zFor M t a b = M a b := by
  unfold zFor
  rw [zfl_ap, if_neg (fun h => h2 h.1), zst_ap, if_neg (fun h => h1 h.1)]
theorem zForN_out {M : Nat → Nat → Int32} {i a b : Nat} (hi : i ≤ 6) (h : a < 20 ∨ (26 ≤ a ∧ a < 32) ∨ 38 ≤ a) : zForN M i a b = M a b := by
  induction i with
  | zero => rfl
  | succ i ih =>
    show zFor (zForN M i) i a b = M a b
    rw [zFor_out (by omega) (by omega)]
    exact ih (by omega)
def zSta (M : Nat → Nat → Int32) (n h : Nat) : Nat → Nat → Int32 := zForN (zfl (zst (zst (zst M 0 0 (nI 1)) 0 1 (nI h)) 0 2 (nI 0)) 12 16 (nI 0)) n
theorem mc_out_le (o : Nat) : mc_out o ≤ 2 := by
  unfold mc_out
  split
  · omega
  · split <;> omega
/-- how a served tick ends its job: 0: it goes on -/
def sv_out (o hd w : Nat) : Nat := if mc_out o = 0 ∧ w ≤ hd + 1 then 3 else mc_out o
theorem sv_out_le (o hd w : Nat) : sv_out o hd w ≤ 3 := by
  have := mc_out_le o
  unfold sv_out
  split <;> omega
def zIns (M : Nat → Nat → Int32) (t pl : Nat) : Nat → Nat → Int32 := zStp (lowb 4 (M 11 pl)) (lowb 2 ((M 11 pl) >>> (nI 4 &&& 31))) (lowb 2 ((M 11 pl) >>> (nI 6 &&& 31))) ((M 11 pl) >>> (nI 8 &&& 31)) (zst M (20 + t) 0 (nI ((pl + 1) % 64))) (20 + t) 0 (26 + t) (fun a => a) 12
theorem zStp_out {o x y : Nat} {n : Int32} {M : Nat → Nat → Int32} {kp jp kr : Nat} {ix : Nat → Nat} {kw a b : Nat} (h1 : ¬ (a = kp ∧ b = jp)) (h2 : a ≠ kr) (h3 : a ≠ kw) : zStp o x y n M kp jp kr ix kw a b = M a b := by
  unfold zStp
  split
  all_goals first
    | rfl
    | (rw [zst_ap, if_neg (fun h => h2 h.1)]; done)
    | (rw [zst_ap, if_neg (fun h => h3 h.1)]; done)
    | (rw [zst_ap, if_neg h1]; done)
    | (split
       · rw [zst_ap, if_neg h1]
       · rfl)
theorem zIns_out {M : Nat → Nat → Int32} {t pl a b : Nat} (h1 : ¬ (a = 20 + t ∧ b = 0)) (h2 : a ≠ 26 + t) (h3 : a ≠ 12) : zIns M t pl a b = M a b := by
  unfold zIns
  rw [zStp_out h1 h2 h3, zst_ap, if_neg h1]
def zEnd (M : Nat → Nat → Int32) (t o : Nat) (tm : Int32) : Nat → Nat → Int32 := if o = 1 then zEn2 (zEn1 M t o) t tm else zEn1 M t o
def zSv (M : Nat → Nat → Int32) (t pl hd w : Nat) : Nat → Nat → Int32 := if sv_out (lowb 4 (M 11 pl)) hd w = 0 then zst (zIns M t pl) (20 + t) 1 (nI (hd + 1)) else zEnd (zst (zIns M t pl) (20 + t) 1 (nI (hd + 1))) t (sv_out (lowb 4 (M 11 pl)) hd w) (M 0 2 + nI 1)

set_option maxHeartbeats 4000000 in
set_option maxRecDepth 100000 in
/-- startRun(h) -/
theorem c_Ex_startRun (l : Launch) (D : va_G) (ca : Nat → ClassId) (ad : Nat → Nat) (M : Nat → Nat → Int32) (n h : Nat) (hn : n ≤ 6) (hz : M 1 0 = nI n) : xw_Mv l y_Ex_startRun (.code y_Ex_startRun b_Ex_startRun 3 none :: zG) { frames := 2, cells := 0, slots := 0, locals := 46 } D zCl (zT ca) [.ref (ad 0), .int (nI h)] (zW ca ad M) (fun _ => True) 0 0 (zW ca ad) (fun M' => M' = zSta M n h) := by
  intro sz
  refine xw_met (cc := b_Ex_startRun) (maxL := 3) (ret := none) (by decide) rfl (Nat.le_of_ble_eq_true rfl) (fun p e s m args below meth c hr hlk hnm hsz hKs C => ?_)
  have loop1 : ∀ (d : Nat) (i : Nat) (M1 : Nat → Nat → Int32), n - i = d → i ≤ n → M1 = zForN (zfl (zst (zst (zst M 0 0 (nI 1)) 0 1 (nI h)) 0 2 (nI 0)) 12 16 (nI 0)) i → XW p l e { frames := 2, cells := 0, slots := 0, locals := 46 } s m args below meth c D zCl (va_A (zW ca ad M) sz) s.heap 3 (zW ca ad M1) 0 0 (MQ below (va_Qv (fun M' => M' = zSta M n h) (xw_B D zCl (zT ca) (va_A (zW ca ad M) sz) (zW ca ad)) (va_A (zW ca ad M) sz)) args s 0 0 (va_A (zW ca ad M) sz)) 28 [(0, .ref (ad 0)), (1, .int (nI h)), (2, .int (nI i))] [] := by
    intro d
    induction d using Nat.strongRecOn with
    | _ d ih =>
      intro i M1 hd hi hM1
      have hz1 : M1 1 0 = nI n := by rw [hM1, zForN_out (by omega) (by omega), zfl_ap, if_neg (by omega), zst_ap, if_neg (by omega), zst_ap, if_neg (by omega), zst_ap, if_neg (by omega)]; exact hz
      refine xw_iload_n C 2 d_Ex_startRun_28 rfl rfl (pc' := 29) rfl ?_
      refine xw_aload_n C 0 d_Ex_startRun_29 rfl rfl (pc' := 30) rfl ?_
      refine xw_get C u_Ex 0 zr_0 rfl 0 (by decide) k_182 rfl rfl d_Ex_startRun_30 (pc' := 33) rfl ?_
      refine xw_get C u_Tl 1 zr_1 rfl 1 (by decide) k_128 rfl rfl d_Ex_startRun_33 (pc' := 36) rfl ?_
      refine xw_topi (y := nI n) hz1 ?_
      refine xw_icmp_ge C (tgt := 57) d_Ex_startRun_36 (by decide) (pc' := 39) rfl (fun h36 => ?_) (fun h36 => ?_)
      ·
        replace h36 : n ≤ i := (nI_leI (by omega) (by omega)).mp h36
        refine xw_vret C hr hlk (F := zW ca ad) M1 rfl ?_ d_Ex_startRun_57
        rw [hM1, show i = n by omega]; rfl
      ·
        replace h36 : ¬ (n ≤ i) := fun hneg => h36 ((nI_leI (by omega) (by omega)).mpr hneg)
        refine xw_aload_n C 0 d_Ex_startRun_39 rfl rfl (pc' := 40) rfl ?_
        refine xw_get C u_Ex 0 zr_0 rfl 0 (by decide) k_182 rfl rfl d_Ex_startRun_40 (pc' := 43) rfl ?_
        refine xw_get C u_Tl 1 zr_1 rfl 0 (by decide) k_125 rfl rfl d_Ex_startRun_43 (pc' := 46) rfl ?_
        refine xw_iload_n C 2 d_Ex_startRun_46 rfl rfl (pc' := 47) rfl ?_
        refine xw_aald C 2 1 zr_2 rfl i rfl (by omega) (by decide) rfl d_Ex_startRun_47 (pc' := 48) rfl ?_
        refine xw_callVv C (c_Tk_forgetRun l D ca ad M1 i (by omega)) ⟨zg_B C 0 k_486 k_26 k_362 q_Tk_forgetRun ⟨by decide, by decide⟩, C.2.2.2.2.1 _ k_360, C.2.2.2.2.1 _ k_361⟩ (14 + i) (zr_Tk (t := i) (by omega)) rfl rfl (fun _ _ _ _ h => h) (fun _ _ _ _ _ _ _ => trivial) rfl rfl (Nat.le_of_ble_eq_true rfl) d_Ex_startRun_48 ⟨by decide, by decide⟩ (pc' := 51) rfl (fun M52 hp53 => ?_)
        have hM52 := hp53
        refine xw_iinc C 2 (v := nI (i + 1)) d_Ex_startRun_51 rfl (xp_inc1 _) (by decide) rfl (pc' := 54) rfl ?_
        refine xw_goto C (tgt := 28) d_Ex_startRun_54 (by decide) ?_
        refine xw_lv [1, 2, 0] rfl ?_
        exact ih (n - (i + 1)) (by omega) (i + 1) M52 rfl (by omega) (by rw [hM52, hM1]; rfl)
  refine xw_lvE (lv' := [(0, .ref (ad 0)), (1, .int (nI h))]) rfl ?_
  refine xw_aload_n C 0 d_Ex_startRun_0 rfl rfl (pc' := 1) rfl ?_
  refine xw_iconst C (v := nI 1) d_Ex_startRun_1 (by decide) (pc' := 2) rfl ?_
  obtain ⟨M1, hM1⟩ : ∃ zq, zq = zst M 0 0 (nI 1) := ⟨_, rfl⟩
  refine xw_put C u_Ex t_Ex t_Ex_ok n_Ex 0 zr_0 rfl 5 (by decide) k_187 rfl rfl (t_Ex_ok 5 (by decide)) xp_n1 rfl (Nat.le_of_ble_eq_true rfl) (ws' := zW ca ad M1) (by rw [hM1]; exact zs_0_0 _) d_Ex_startRun_2 (pc' := 5) rfl ?_
  refine xw_aload_n C 0 d_Ex_startRun_5 rfl rfl (pc' := 6) rfl ?_
  refine xw_iload_n C 1 d_Ex_startRun_6 rfl rfl (pc' := 7) rfl ?_
  obtain ⟨M2, hM2⟩ : ∃ zq, zq = zst M1 0 1 (nI h) := ⟨_, rfl⟩
  refine xw_put C u_Ex t_Ex t_Ex_ok n_Ex 0 zr_0 rfl 6 (by decide) k_188 rfl rfl (t_Ex_ok 6 (by decide)) rfl rfl (Nat.le_of_ble_eq_true rfl) (ws' := zW ca ad M2) (by rw [hM2]; exact zs_0_1 _) d_Ex_startRun_7 (pc' := 10) rfl ?_
  refine xw_aload_n C 0 d_Ex_startRun_10 rfl rfl (pc' := 11) rfl ?_
  refine xw_iconst C (v := nI 0) d_Ex_startRun_11 (by decide) (pc' := 12) rfl ?_
  obtain ⟨M3, hM3⟩ : ∃ zq, zq = zst M2 0 2 (nI 0) := ⟨_, rfl⟩
  refine xw_put C u_Ex t_Ex t_Ex_ok n_Ex 0 zr_0 rfl 7 (by decide) k_189 rfl rfl (t_Ex_ok 7 (by decide)) rfl rfl (Nat.le_of_ble_eq_true rfl) (ws' := zW ca ad M3) (by rw [hM3]; exact zs_0_2 _) d_Ex_startRun_12 (pc' := 15) rfl ?_
  refine xw_aload_n C 0 d_Ex_startRun_15 rfl rfl (pc' := 16) rfl ?_
  refine xw_get C u_Ex 0 zr_0 rfl 3 (by decide) k_185 rfl rfl d_Ex_startRun_16 (pc' := 19) rfl ?_
  refine xw_get C u_Mc 10 zr_10 rfl 1 (by decide) k_176 rfl rfl d_Ex_startRun_19 (pc' := 22) rfl ?_
  refine xw_iconst C (v := nI 0) d_Ex_startRun_22 (by decide) (pc' := 23) rfl ?_
  refine xw_callSv C (c_Ar_fill l D ca ad M3 12 16 (nI 0) (by decide) (fun _ => rfl) (by decide)) ⟨zg_B C 2 k_485 k_38 k_365 q_Ar_fill ⟨by decide, by decide⟩, C.2.2.2.2.1 _ k_364⟩ (fun _ _ _ _ h => h) (fun _ _ _ _ _ _ _ => trivial) rfl rfl (Nat.le_of_ble_eq_true rfl) d_Ex_startRun_23 ⟨by decide, by decide⟩ (pc' := 26) rfl (fun M5 hp6 => ?_)
  have hM5 := hp6
  refine xw_iconst C (v := nI 0) d_Ex_startRun_26 (by decide) (pc' := 27) rfl ?_
  refine xw_istore_n C d_Ex_startRun_27 rfl (by decide) rfl (pc' := 28) rfl ?_
  refine xw_lv [1, 2, 0] rfl ?_
  exact loop1 n 0 M5 rfl (by omega) (by rw [hM5, hM3, hM2, hM1]; rfl)

set_option maxHeartbeats 4000000 in
set_option maxRecDepth 100000 in
/-- serve(task) -/
theorem c_Ex_serve (l : Launch) (D : va_G) (ca : Nat → ClassId) (ad : Nat → Nat) (M : Nat → Nat → Int32) (t pl hd w : Nat) (ht : t < 6) (hpl : M (20 + t) 0 = nI pl) (hpb : pl < 64) (hhd : M (20 + t) 1 = nI hd) (hhb : hd < 2 ^ 20) (hw : M (14 + t) 1 = nI w) (hwb : w < 2 ^ 20) : xw_Mi l y_Ex_serve (.code y_Ex_serve b_Ex_serve 4 (some .int) :: zG) { frames := 3, cells := 0, slots := 0, locals := 68 } D zCl (zT ca) [.ref (ad 0), .ref (ad (14 + t))] (zW ca ad M) (fun _ => True) 0 0 (zW ca ad) (fun r M' => M' = zSv M t pl hd w ∧ r = nI (sv_out (lowb 4 (M 11 pl)) hd w)) := by
  intro sz
  refine xw_met (cc := b_Ex_serve) (maxL := 4) (ret := (some .int)) (by decide) rfl (Nat.le_of_ble_eq_true rfl) (fun p e s m args below meth c hr hlk hnm hsz hKs C => ?_)
  refine xw_lvE (lv' := [(0, .ref (ad 0)), (1, .ref (ad (14 + t)))]) rfl ?_
  refine xw_aload_n C 1 d_Ex_serve_0 rfl rfl (pc' := 1) rfl ?_
  refine xw_get C u_Tk (14 + t) (zr_Tk (t := t) (by omega)) rfl 5 (by decide) k_105 rfl rfl d_Ex_serve_1 (pc' := 4) rfl ?_
  refine xw_astore_n C d_Ex_serve_4 rfl (by decide) rfl (pc' := 5) rfl ?_
  refine xw_aload_n C 1 d_Ex_serve_5 rfl rfl (pc' := 6) rfl ?_
  refine xw_get C u_Ex 0 zr_0 rfl 3 (by decide) k_185 rfl rfl d_Ex_serve_6 (pc' := 9) rfl ?_
  refine xw_aload_n C 0 d_Ex_serve_9 rfl rfl (pc' := 10) rfl ?_
  refine xw_callVi C (c_Mc_step l D ca ad M t pl (by omega) hpl (by omega)) ⟨zg_B C 1 k_527 k_30 k_530 q_Mc_step ⟨by decide, by decide⟩, C.2.2.2.2.1 _ k_528, C.2.2.2.2.1 _ k_529⟩ 10 zr_10 rfl rfl (fun _ _ _ _ h => h) (fun _ _ _ _ _ _ _ => trivial) rfl rfl (Nat.le_of_ble_eq_true rfl) d_Ex_serve_10 ⟨by decide, by decide⟩ (pc' := 13) rfl (fun r1 M2 hp3 => ?_)
  obtain ⟨hM2, hre⟩ := hp3
  rw [hre]
  clear hre
  replace hM2 : M2 = zIns M t pl := hM2
  obtain ⟨o, ho⟩ : ∃ zq, zq = lowb 4 (M 11 pl) := ⟨_, rfl⟩
  rw [← ho]
  have hmo := mc_out_le o
  have hk2 : ∀ a b, ¬ (a = 20 + t ∧ b = 0) → a ≠ 26 + t → a ≠ 12 → M2 a b = M a b := fun a b h1 h2 h3 => by rw [hM2]; exact zIns_out h1 h2 h3
  refine xw_istore_n C d_Ex_serve_13 rfl (by decide) rfl (pc' := 14) rfl ?_
  refine xw_aload_n C 1 d_Ex_serve_14 rfl rfl (pc' := 15) rfl ?_
  refine xw_dup C d_Ex_serve_15 rfl (pc' := 16) rfl ?_
  refine xw_get C u_Jb (20 + t) (zr_Jb (t := t) (by omega)) rfl 2 (by decide) k_72 rfl rfl d_Ex_serve_16 (pc' := 19) rfl ?_
  refine xw_topi (y := nI hd) ((hk2 _ _ (by omega) (by omega) (by omega)).trans hhd) ?_
  refine xw_iconst C (v := nI 1) d_Ex_serve_19 (by decide) (pc' := 20) rfl ?_
  refine xw_iadd C d_Ex_serve_20 (pc' := 21) rfl ?_
  refine xw_topi (y := nI (hd + 1)) (nI_add _ _) ?_
  obtain ⟨M4, hM4⟩ : ∃ zq, zq = zst M2 (20 + t) 1 (nI (hd + 1)) := ⟨_, rfl⟩
  refine xw_put C u_Jb t_Jb t_Jb_ok n_Jb (20 + t) (zr_Jb (t := t) (by omega)) rfl 2 (by decide) k_72 rfl rfl (t_Jb_ok 2 (by decide)) rfl rfl (Nat.le_of_ble_eq_true rfl) (ws' := zW ca ad M4) (by rw [hM4]; exact zs_Jb_1 (t := t) (by omega) _) d_Ex_serve_21 (pc' := 24) rfl ?_
  have hk3 : ∀ a b, ¬ (a = 20 + t ∧ b ≤ 1) → a ≠ 26 + t → a ≠ 12 → M4 a b = M a b := fun a b h1 h2 h3 => by rw [hM4, zst_ap, if_neg (by omega)]; exact hk2 a b (by omega) h2 h3
  have hh3 : M4 (20 + t) 1 = nI (hd + 1) := by rw [hM4, zst_ap, if_pos ⟨rfl, rfl⟩]
  have hw3 : M4 (14 + t) 1 = nI w := (hk3 _ _ (by omega) (by omega) (by omega)).trans hw
  have hn3 : M4 0 2 = M 0 2 := hk3 _ _ (by omega) (by omega) (by omega)
  refine xw_iload_n C 0 d_Ex_serve_24 rfl rfl (pc' := 25) rfl ?_
  refine xw_if_ne C (tgt := 41) d_Ex_serve_25 (by decide) (pc' := 28) rfl (fun h25 => ?_) (fun h25 => ?_)
  ·
    replace h25 : ¬ ((mc_out o) = 0) := fun hneg => h25 ((xp_eq0 (by omega)).mpr hneg)
    refine xw_iload_n C 0 d_Ex_serve_41 rfl rfl (pc' := 42) rfl ?_
    refine xw_if_eq C (tgt := 56) d_Ex_serve_42 (by decide) (pc' := 45) rfl (fun h42 => ?_) (fun h42 => ?_)
    ·
      replace h42 : (mc_out o) = 0 := (xp_eq0 (by omega)).mp h42
      refine xw_iload_n C 0 d_Ex_serve_56 rfl rfl (pc' := 57) rfl ?_
      refine xw_iret C hr hlk (F := zW ca ad) M4 rfl ?_ d_Ex_serve_57
      have hsv : sv_out o hd w = mc_out o := if_neg (by omega)
      refine ⟨?_, by rw [hsv]⟩
      unfold zSv
      rw [← ho, if_pos (by omega), hM4, hM2]
    ·
      replace h42 : ¬ ((mc_out o) = 0) := fun hneg => h42 ((xp_eq0 (by omega)).mpr hneg)
      refine xw_aload_n C 3 d_Ex_serve_45 rfl rfl (pc' := 46) rfl ?_
      refine xw_iload_n C 0 d_Ex_serve_46 rfl rfl (pc' := 47) rfl ?_
      refine xw_aload_n C 2 d_Ex_serve_47 rfl rfl (pc' := 48) rfl ?_
      refine xw_get C u_Ex 0 zr_0 rfl 7 (by decide) k_189 rfl rfl d_Ex_serve_48 (pc' := 51) rfl ?_
      refine xw_iconst C (v := nI 1) d_Ex_serve_51 (by decide) (pc' := 52) rfl ?_
      refine xw_iadd C d_Ex_serve_52 (pc' := 53) rfl ?_
      refine xw_callVv C (c_Tk_endJob l D ca ad M4 t (mc_out o) ((M4 0 2) + (nI 1)) (by omega) (by omega) (by omega)) ⟨zg_B C 2 k_537 k_26 k_540 q_Tk_endJob ⟨by decide, by decide⟩, C.2.2.2.2.1 _ k_538, C.2.2.2.2.1 _ k_539⟩ (14 + t) (zr_Tk (t := t) (by omega)) rfl rfl (fun _ _ _ _ h => h) (fun _ _ _ _ _ _ _ => trivial) rfl rfl (Nat.le_of_ble_eq_true rfl) d_Ex_serve_53 ⟨by decide, by decide⟩ (pc' := 56) rfl (fun M6 hp7 => ?_)
      have hM6 := hp7
      refine xw_iload_n C 0 d_Ex_serve_56 rfl rfl (pc' := 57) rfl ?_
      refine xw_iret C hr hlk (F := zW ca ad) M6 rfl ?_ d_Ex_serve_57
      have hsv : sv_out o hd w = mc_out o := if_neg (by omega)
      refine ⟨?_, by rw [hsv]⟩
      unfold zSv zEnd
      rw [← ho, if_neg (by omega), hsv, hM6, hn3, hM4, hM2]
  ·
    replace h25 : (mc_out o) = 0 := (xp_eq0 (by omega)).mp h25
    refine xw_aload_n C 1 d_Ex_serve_28 rfl rfl (pc' := 29) rfl ?_
    refine xw_get C u_Jb (20 + t) (zr_Jb (t := t) (by omega)) rfl 2 (by decide) k_72 rfl rfl d_Ex_serve_29 (pc' := 32) rfl ?_
    
    refine xw_topi (y := nI (hd + 1)) hh3 ?_
    refine xw_aload_n C 3 d_Ex_serve_32 rfl rfl (pc' := 33) rfl ?_
    refine xw_get C u_Tk (14 + t) (zr_Tk (t := t) (by omega)) rfl 1 (by decide) k_95 rfl rfl d_Ex_serve_33 (pc' := 36) rfl ?_
    refine xw_topi (y := nI w) hw3 ?_
    refine xw_icmp_lt C (tgt := 41) d_Ex_serve_36 (by decide) (pc' := 39) rfl (fun h36 => ?_) (fun h36 => ?_)
    ·
      replace h36 : (hd + 1) < w := (nI_ltI (by omega) (by omega)).mp h36
      refine xw_iload_n C 0 d_Ex_serve_41 rfl rfl (pc' := 42) rfl ?_
      refine xw_if_eq C (tgt := 56) d_Ex_serve_42 (by decide) (pc' := 45) rfl (fun h42 => ?_) (fun h42 => ?_)
      ·
        replace h42 : (mc_out o) = 0 := (xp_eq0 (by omega)).mp h42
        refine xw_iload_n C 0 d_Ex_serve_56 rfl rfl (pc' := 57) rfl ?_
        refine xw_iret C hr hlk (F := zW ca ad) M4 rfl ?_ d_Ex_serve_57
        have hsv : sv_out o hd w = mc_out o := if_neg (by omega)
        refine ⟨?_, by rw [hsv]⟩
        unfold zSv
        rw [← ho, if_pos (by omega), hM4, hM2]
      ·
        replace h42 : ¬ ((mc_out o) = 0) := fun hneg => h42 ((xp_eq0 (by omega)).mpr hneg)
        refine xw_aload_n C 3 d_Ex_serve_45 rfl rfl (pc' := 46) rfl ?_
        refine xw_iload_n C 0 d_Ex_serve_46 rfl rfl (pc' := 47) rfl ?_
        refine xw_aload_n C 2 d_Ex_serve_47 rfl rfl (pc' := 48) rfl ?_
        refine xw_get C u_Ex 0 zr_0 rfl 7 (by decide) k_189 rfl rfl d_Ex_serve_48 (pc' := 51) rfl ?_
        refine xw_iconst C (v := nI 1) d_Ex_serve_51 (by decide) (pc' := 52) rfl ?_
        refine xw_iadd C d_Ex_serve_52 (pc' := 53) rfl ?_
        refine xw_callVv C (c_Tk_endJob l D ca ad M4 t (mc_out o) ((M4 0 2) + (nI 1)) (by omega) (by omega) (by omega)) ⟨zg_B C 2 k_537 k_26 k_540 q_Tk_endJob ⟨by decide, by decide⟩, C.2.2.2.2.1 _ k_538, C.2.2.2.2.1 _ k_539⟩ (14 + t) (zr_Tk (t := t) (by omega)) rfl rfl (fun _ _ _ _ h => h) (fun _ _ _ _ _ _ _ => trivial) rfl rfl (Nat.le_of_ble_eq_true rfl) d_Ex_serve_53 ⟨by decide, by decide⟩ (pc' := 56) rfl (fun M9 hp10 => ?_)
        have hM9 := hp10
        refine xw_iload_n C 0 d_Ex_serve_56 rfl rfl (pc' := 57) rfl ?_
        refine xw_iret C hr hlk (F := zW ca ad) M9 rfl ?_ d_Ex_serve_57
        have hsv : sv_out o hd w = mc_out o := if_neg (by omega)
        refine ⟨?_, by rw [hsv]⟩
        unfold zSv zEnd
        rw [← ho, if_neg (by omega), hsv, hM9, hn3, hM4, hM2]
    ·
      replace h36 : ¬ ((hd + 1) < w) := fun hneg => h36 ((nI_ltI (by omega) (by omega)).mpr hneg)
      refine xw_iconst C (v := nI 3) d_Ex_serve_39 (by decide) (pc' := 40) rfl ?_
      refine xw_istore_n C d_Ex_serve_40 rfl (by decide) rfl (pc' := 41) rfl ?_
      refine xw_iload_n C 0 d_Ex_serve_41 rfl rfl (pc' := 42) rfl ?_
      refine xw_if_eq C (tgt := 56) d_Ex_serve_42 (by decide) (pc' := 45) rfl (fun h42 => ?_) (fun h42 => ?_)
      ·
        replace h42 : 3 = 0 := (xp_eq0 (by omega)).mp h42
        omega
      ·
        replace h42 : ¬ (3 = 0) := fun hneg => h42 ((xp_eq0 (by omega)).mpr hneg)
        refine xw_aload_n C 3 d_Ex_serve_45 rfl rfl (pc' := 46) rfl ?_
        refine xw_iload_n C 0 d_Ex_serve_46 rfl rfl (pc' := 47) rfl ?_
        refine xw_aload_n C 2 d_Ex_serve_47 rfl rfl (pc' := 48) rfl ?_
        refine xw_get C u_Ex 0 zr_0 rfl 7 (by decide) k_189 rfl rfl d_Ex_serve_48 (pc' := 51) rfl ?_
        refine xw_iconst C (v := nI 1) d_Ex_serve_51 (by decide) (pc' := 52) rfl ?_
        refine xw_iadd C d_Ex_serve_52 (pc' := 53) rfl ?_
        refine xw_callVv C (c_Tk_endJob l D ca ad M4 t 3 ((M4 0 2) + (nI 1)) (by omega) (by omega) (by omega)) ⟨zg_B C 2 k_537 k_26 k_540 q_Tk_endJob ⟨by decide, by decide⟩, C.2.2.2.2.1 _ k_538, C.2.2.2.2.1 _ k_539⟩ (14 + t) (zr_Tk (t := t) (by omega)) rfl rfl (fun _ _ _ _ h => h) (fun _ _ _ _ _ _ _ => trivial) rfl rfl (Nat.le_of_ble_eq_true rfl) d_Ex_serve_53 ⟨by decide, by decide⟩ (pc' := 56) rfl (fun M12 hp13 => ?_)
        have hM12 := hp13
        refine xw_iload_n C 0 d_Ex_serve_56 rfl rfl (pc' := 57) rfl ?_
        refine xw_iret C hr hlk (F := zW ca ad) M12 rfl ?_ d_Ex_serve_57
        have hsv : sv_out o hd w = 3 := if_pos ⟨h25, by omega⟩
        refine ⟨?_, by rw [hsv]⟩
        unfold zSv zEnd
        rw [← ho, if_neg (by omega), hsv, hM12, hn3, hM4, hM2]
end
section
theorem zJob_20 {M : Nat → Nat → Int32} {t : Nat} {fp tm : Int32} {b : Nat} : zJob M t fp tm (20 + t) b = if b = 3 then nI 1 else if b = 2 then tm else if b = 1 then nI 0 else if b = 0 then fp else M (20 + t) b := by
  unfold zJob
  rw [zst_ap, zst_ap, zst_ap, zst_ap, zfl_ap, if_neg (show ¬ (20 + t = 26 + t ∧ b < 4) by omega)]
  by_cases h3 : b = 3
  · rw [if_pos ⟨rfl, h3⟩, if_pos h3]
  · rw [if_neg (fun h => h3 h.2), if_neg h3]
    by_cases h2 : b = 2
    · rw [if_pos ⟨rfl, h2⟩, if_pos h2]
    · rw [if_neg (fun h => h2 h.2), if_neg h2]
      by_cases h1 : b = 1
      · rw [if_pos ⟨rfl, h1⟩, if_pos h1]
      · rw [if_neg (fun h => h1 h.2), if_neg h1]
        by_cases h0 : b = 0
        · rw [if_pos ⟨rfl, h0⟩, if_pos h0]
        · rw [if_neg (fun h => h0 h.2), if_neg h0]
theorem zJob_26 {M : Nat → Nat → Int32} {t : Nat} {fp tm : Int32} {b : Nat} : zJob M t fp tm (26 + t) b = if b < 4 then nI 0 else M (26 + t) b := by
  unfold zJob
  rw [zst_ap, if_neg (by omega), zst_ap, if_neg (by omega), zst_ap, if_neg (by omega), zst_ap, if_neg (by omega), zfl_ap]
  by_cases h : b < 4
  · rw [if_pos ⟨rfl, h⟩, if_pos h]
  · rw [if_neg (fun q => h q.2), if_neg h]
/-- a task's rows behind releaseJobs: new where it has come, else as they were -/
theorem zRel_yes {M : Nat → Nat → Int32} {of per : Nat → Nat} {tm i t : Nat} (hi : i ≤ 6) (ht : t < i) (hr : sp_rel (of t) (per t) tm) : (∀ b, zRel M of per tm i (20 + t) b = if b = 3 then nI 1 else if b = 2 then nI tm else if b = 1 then nI 0 else if b = 0 then M (14 + t) 4 else M (20 + t) b) ∧ (∀ b, zRel M of per tm i (26 + t) b = if b < 4 then nI 0 else M (26 + t) b) := by
  have key : ∀ i, i ≤ 6 → (i ≤ t → (∀ b, zRel M of per tm i (20 + t) b = M (20 + t) b) ∧ (∀ b, zRel M of per tm i (26 + t) b = M (26 + t) b)) ∧ (t < i → (∀ b, zRel M of per tm i (20 + t) b = if b = 3 then nI 1 else if b = 2 then nI tm else if b = 1 then nI 0 else if b = 0 then M (14 + t) 4 else M (20 + t) b) ∧ (∀ b, zRel M of per tm i (26 + t) b = if b < 4 then nI 0 else M (26 + t) b)) := by
    intro i
    induction i with
    | zero => exact fun _ => ⟨fun _ => ⟨fun _ => rfl, fun _ => rfl⟩, fun h => absurd h (Nat.not_lt_zero _)⟩
    | succ i ih =>
      intro hi6
      obtain ⟨a1, a2⟩ := ih (by omega)
      have e : zRel M of per tm (i + 1) = if sp_rel (of i) (per i) tm then zJob (zRel M of per tm i) i (M (14 + i) 4) (nI tm) else zRel M of per tm i := rfl
      refine ⟨fun h => ?_, fun h => ?_⟩
      · obtain ⟨b1, b2⟩ := a1 (by omega)
        rw [e]
        by_cases c : sp_rel (of i) (per i) tm
        · rw [if_pos c]
          exact ⟨fun b => by rw [zJob_out (by omega) (by omega)]; exact b1 b, fun b => by rw [zJob_out (by omega) (by omega)]; exact b2 b⟩
        · rw [if_neg c]; exact ⟨b1, b2⟩
      · rw [e]
        by_cases d : t = i
        · subst d
          obtain ⟨b1, b2⟩ := a1 (Nat.le_refl _)
          rw [if_pos hr]
          exact ⟨fun b => by rw [zJob_20, b1], fun b => by rw [zJob_26, b2]⟩
        · obtain ⟨b1, b2⟩ := a2 (by omega)
          by_cases c : sp_rel (of i) (per i) tm
          · rw [if_pos c]
            exact ⟨fun b => by rw [zJob_out (by omega) (by omega)]; exact b1 b, fun b => by rw [zJob_out (by omega) (by omega)]; exact b2 b⟩
          · rw [if_neg c]; exact ⟨b1, b2⟩
  exact (key i hi).2 ht
theorem zRel_no {M : Nat → Nat → Int32} {of per : Nat → Nat} {tm i t : Nat} (hi : i ≤ 6) (ht : t < 6) (hr : ¬ sp_rel (of t) (per t) tm) : (∀ b, zRel M of per tm i (20 + t) b = M (20 + t) b) ∧ (∀ b, zRel M of per tm i (26 + t) b = M (26 + t) b) := by
  induction i with
  | zero => exact ⟨fun _ => rfl, fun _ => rfl⟩
  | succ i ih =>
    obtain ⟨b1, b2⟩ := ih (by omega)
    have e : zRel M of per tm (i + 1) = if sp_rel (of i) (per i) tm then zJob (zRel M of per tm i) i (M (14 + i) 4) (nI tm) else zRel M of per tm i := rfl
    rw [e]
    by_cases c : sp_rel (of i) (per i) tm
    · have d : t ≠ i := fun h => hr (by rw [h]; exact c)
      rw [if_pos c]
      exact ⟨fun b => by rw [zJob_out (by omega) (by omega)]; exact b1 b, fun b => by rw [zJob_out (by omega) (by omega)]; exact b2 b⟩
    · rw [if_neg c]; exact ⟨b1, b2⟩
def jbOK (M : Nat → Nat → Int32) (n : Nat) (wk : Nat → Nat) : Prop := ∀ t, t < n → M (20 + t) 3 = nI 0 ∨ (M (20 + t) 3 = nI 1 ∧ ∃ pl hd, pl < 64 ∧ hd < wk t ∧ M (20 + t) 0 = nI pl ∧ M (20 + t) 1 = nI hd)
def fpOK (M : Nat → Nat → Int32) (n : Nat) : Prop := ∀ t, t < n → ∃ e, e < 64 ∧ M (14 + t) 4 = nI e
def rnOK (M : Nat → Nat → Int32) (n : Nat) (per wk dl of : Nat → Nat) (own : Nat → Option Nat) (h tm : Nat) : Prop := tkOK M n per wk dl of ∧ M 0 2 = nI tm ∧ M 0 1 = nI h ∧ 1 ≤ h ∧ h ≤ 240 ∧ (∀ u, u < h → M 13 u = oI (own u) ∧ ∀ t, own u = some t → t < n) ∧ jbOK M n wk ∧ fpOK M n
theorem jbOK.rel {M : Nat → Nat → Int32} {n tm : Nat} {per wk dl of : Nat → Nat} (hT : tkOK M n per wk dl of) (hJ : jbOK M n wk) (hF : fpOK M n) : jbOK (zRel M of per tm n) n wk := by
  intro t ht
  have hn := hT.1
  by_cases c : sp_rel (of t) (per t) tm
  · obtain ⟨a, _⟩ := zRel_yes (M := M) hn ht c
    obtain ⟨e, he, hf⟩ := hF t ht
    have q := hT.2.2 t ht
    refine Or.inr ⟨(a 3).trans rfl, e, 0, he, by omega, (a 0).trans hf, (a 1).trans rfl⟩
  · obtain ⟨a, _⟩ := zRel_no (M := M) (i := n) hn (by omega) c
    rw [a, a, a]
    exact hJ t ht
def tkF (n : Nat) (per wk of : Nat → Nat) (own : Nat → Option Nat) (h tm : Nat) (M : Nat → Nat → Int32) : (Nat → Nat → Int32) × Int32 := match own (tm % h) with
  | none => (zst (zRel M of per tm n) 0 2 (nI (tm + 1)), -1)
  | some t => if zRel M of per tm n (20 + t) 3 = nI 0 then (zst (zRel M of per tm n) 0 2 (nI (tm + 1)), -1)
    else (zst (zSv (zRel M of per tm n) t (zRel M of per tm n (20 + t) 0).toNatClampNeg (zRel M of per tm n (20 + t) 1).toNatClampNeg (wk t)) 0 2 (nI (tm + 1)), nI (t + 100 * sv_out (lowb 4 (zRel M of per tm n 11 (zRel M of per tm n (20 + t) 0).toNatClampNeg)) (zRel M of per tm n (20 + t) 1).toNatClampNeg (wk t)))
theorem tkF_none {n : Nat} {per wk of : Nat → Nat} {own : Nat → Option Nat} {h tm : Nat} {M : Nat → Nat → Int32} (ho : own (tm % h) = none) : tkF n per wk of own h tm M = (zst (zRel M of per tm n) 0 2 (nI (tm + 1)), -1) := by
  unfold tkF; rw [ho]
theorem tkF_idle {n : Nat} {per wk of : Nat → Nat} {own : Nat → Option Nat} {h tm t : Nat} {M : Nat → Nat → Int32} (ho : own (tm % h) = some t) (hc : zRel M of per tm n (20 + t) 3 = nI 0) : tkF n per wk of own h tm M = (zst (zRel M of per tm n) 0 2 (nI (tm + 1)), -1) := by
  unfold tkF; rw [ho]; exact if_pos hc
theorem tkF_busy {n : Nat} {per wk of : Nat → Nat} {own : Nat → Option Nat} {h tm t pl hd : Nat} {M : Nat → Nat → Int32} (ho : own (tm % h) = some t) (hc : zRel M of per tm n (20 + t) 3 = nI 1) (hp : zRel M of per tm n (20 + t) 0 = nI pl) (hq : zRel M of per tm n (20 + t) 1 = nI hd) (hpb : pl < 64) (hqb : hd < 2 ^ 20) :
    tkF n per wk of own h tm M = (zst (zSv (zRel M of per tm n) t pl hd (wk t)) 0 2 (nI (tm + 1)), nI (t + 100 * sv_out (lowb 4 (zRel M of per tm n 11 pl)) hd (wk t))) := by
  unfold tkF
  rw [ho]
  dsimp only
  rw [if_neg (by rw [hc]; decide), hp, hq, nI_clamp (by omega), nI_clamp (by omega)]
theorem zEnd_out {M : Nat → Nat → Int32} {t o : Nat} {tm : Int32} {a b : Nat} (h1 : ¬ (a = 20 + t ∧ b = 3)) (h2 : a ≠ 32 + t) : zEnd M t o tm a b = M a b := by
  unfold zEnd zEn2 zEn1
  split
  · rw [zst_ap, if_neg (fun h => h2 h.1), zst_ap, if_neg (fun h => h2 h.1), zst_ap, if_neg h1]
  · rw [zst_ap, if_neg (fun h => h2 h.1), zst_ap, if_neg h1]
theorem zSv_out {M : Nat → Nat → Int32} {t pl hd w a b : Nat} (h1 : a ≠ 20 + t) (h2 : a ≠ 26 + t) (h3 : a ≠ 12) (h4 : a ≠ 32 + t) : zSv M t pl hd w a b = M a b := by
  unfold zSv
  split
  · rw [zst_ap, if_neg (fun h => h1 h.1)]; exact zIns_out (fun h => h1 h.1) h2 h3
  · rw [zEnd_out (fun h => h1 h.1) h4, zst_ap, if_neg (fun h => h1 h.1)]; exact zIns_out (fun h => h1 h.1) h2 h3

set_option maxHeartbeats 4000000 in
set_option maxRecDepth 100000 in
/-- runTick() -/
theorem c_Ex_runTick (l : Launch) (D : va_G) (ca : Nat → ClassId) (ad : Nat → Nat) (M : Nat → Nat → Int32) (n : Nat) (per wk dl of : Nat → Nat) (own : Nat → Option Nat) (h tm : Nat) (hR : rnOK M n per wk dl of own h tm) (htm : tm < 2 ^ 30) : xw_Mi l y_Ex_runTick (.code y_Ex_runTick b_Ex_runTick 3 (some .int) :: zG) { frames := 4, cells := 0, slots := 0, locals := 91 } D zCl (zT ca) [.ref (ad 0)] (zW ca ad M) (fun _ => True) 0 0 (zW ca ad) (fun r M' => M' = (tkF n per wk of own h tm M).1 ∧ r = (tkF n per wk of own h tm M).2) := by
  intro sz
  refine xw_met (cc := b_Ex_runTick) (maxL := 3) (ret := (some .int)) (by decide) rfl (Nat.le_of_ble_eq_true rfl) (fun p e s m args below meth c hr hlk hnm hsz hKs C => ?_)
  obtain ⟨hT, hnow, hrr, hh1, hh, hown, hJ, hF⟩ := hR
  have hn6 := hT.1
  refine xw_lvE (lv' := [(0, .ref (ad 0))]) rfl ?_
  refine xw_aload_n C 0 d_Ex_runTick_0 rfl rfl (pc' := 1) rfl ?_
  refine xw_get C u_Ex 0 zr_0 rfl 0 (by decide) k_182 rfl rfl d_Ex_runTick_1 (pc' := 4) rfl ?_
  refine xw_aload_n C 0 d_Ex_runTick_4 rfl rfl (pc' := 5) rfl ?_
  refine xw_get C u_Ex 0 zr_0 rfl 7 (by decide) k_189 rfl rfl d_Ex_runTick_5 (pc' := 8) rfl ?_
  refine xw_topi (y := nI tm) hnow ?_
  refine xw_callVv C (c_Tl_releaseJobs l D ca ad M n per wk dl of tm hT (by omega)) ⟨zg_B C 1 k_510 k_25 k_513 q_Tl_releaseJobs ⟨by decide, by decide⟩, C.2.2.2.2.1 _ k_511, C.2.2.2.2.1 _ k_512⟩ 1 zr_1 rfl rfl (fun _ _ _ _ h => h) (fun _ _ _ _ _ _ _ => trivial) rfl rfl (Nat.le_of_ble_eq_true rfl) d_Ex_runTick_8 ⟨by decide, by decide⟩ (pc' := 11) rfl (fun M2 hp3 => ?_)
  have hM2 := hp3
  have hk1 : ∀ a b, (a < 20 ∨ 32 ≤ a) → M2 a b = M a b := fun a b hab => by rw [hM2]; exact zRel_out (by omega) hab
  have hn1 : M2 0 2 = nI tm := (hk1 _ _ (by omega)).trans hnow
  have hr1 : M2 0 1 = nI h := (hk1 _ _ (by omega)).trans hrr
  have hmod : tm % h < h := Nat.mod_lt _ (by omega)
  have hJ1 : jbOK M2 n wk := by rw [hM2]; exact jbOK.rel hT hJ hF
  refine xw_aload_n C 0 d_Ex_runTick_11 rfl rfl (pc' := 12) rfl ?_
  refine xw_get C u_Ex 0 zr_0 rfl 4 (by decide) k_186 rfl rfl d_Ex_runTick_12 (pc' := 15) rfl ?_
  refine xw_aload_n C 0 d_Ex_runTick_15 rfl rfl (pc' := 16) rfl ?_
  refine xw_get C u_Ex 0 zr_0 rfl 7 (by decide) k_189 rfl rfl d_Ex_runTick_16 (pc' := 19) rfl ?_
  refine xw_topi (y := nI tm) hn1 ?_
  refine xw_aload_n C 0 d_Ex_runTick_19 rfl rfl (pc' := 20) rfl ?_
  refine xw_get C u_Ex 0 zr_0 rfl 6 (by decide) k_188 rfl rfl d_Ex_runTick_20 (pc' := 23) rfl ?_
  refine xw_topi (y := nI h) hr1 ?_
  refine xw_callSi C (c_Ma_floorMod l D ca ad M2 tm h (by omega) (by omega) (by omega)) ⟨zg_B C 2 k_520 k_39 k_522 q_Ma_floorMod ⟨by decide, by decide⟩, C.2.2.2.2.1 _ k_521⟩ (fun _ _ _ _ h => h) (fun _ _ _ _ _ _ _ => trivial) rfl rfl (Nat.le_of_ble_eq_true rfl) d_Ex_runTick_23 ⟨by decide, by decide⟩ (pc' := 26) rfl (fun r4 M5 hp6 => ?_)
  obtain ⟨hme, hre⟩ := hp6
  rw [hme, hre]
  clear hme hre
  refine xw_iald C 13 0 zr_13 rfl (tm % h) rfl (by omega) (by decide) d_Ex_runTick_26 (pc' := 27) rfl ?_
  obtain ⟨ho1, ho2⟩ := hown (tm % h) hmod
  rcases hq : own (tm % h) with _ | t
  ·
    refine xw_topi (y := -1) ((hk1 _ _ (by omega)).trans (by rw [ho1, hq]; rfl)) ?_
    refine xw_istore_n C d_Ex_runTick_27 rfl (by decide) rfl (pc' := 28) rfl ?_
    refine xw_iconst C (v := (-1)) d_Ex_runTick_28 (by decide) (pc' := 29) rfl ?_
    refine xw_istore_n C d_Ex_runTick_29 rfl (by decide) rfl (pc' := 30) rfl ?_
    refine xw_iload_n C 1 d_Ex_runTick_30 rfl rfl (pc' := 31) rfl ?_
    refine xw_iconst C (v := (-1)) d_Ex_runTick_31 (by decide) (pc' := 32) rfl ?_
    refine xw_icmp_eq C (tgt := 72) d_Ex_runTick_32 (by decide) (pc' := 35) rfl (fun h32 => ?_) (fun h32 => ?_)
    ·
      refine xw_aload_n C 2 d_Ex_runTick_72 rfl rfl (pc' := 73) rfl ?_
      refine xw_dup C d_Ex_runTick_73 rfl (pc' := 74) rfl ?_
      refine xw_get C u_Ex 0 zr_0 rfl 7 (by decide) k_189 rfl rfl d_Ex_runTick_74 (pc' := 77) rfl ?_
      refine xw_topi (y := nI tm) hn1 ?_
      refine xw_iconst C (v := nI 1) d_Ex_runTick_77 (by decide) (pc' := 78) rfl ?_
      refine xw_iadd C d_Ex_runTick_78 (pc' := 79) rfl ?_
      refine xw_topi (y := nI (tm + 1)) (nI_add _ _) ?_
      obtain ⟨M7, hM7⟩ : ∃ zq, zq = zst M2 0 2 (nI (tm + 1)) := ⟨_, rfl⟩
      refine xw_put C u_Ex t_Ex t_Ex_ok n_Ex 0 zr_0 rfl 7 (by decide) k_189 rfl rfl (t_Ex_ok 7 (by decide)) rfl rfl (Nat.le_of_ble_eq_true rfl) (ws' := zW ca ad M7) (by rw [hM7]; exact zs_0_2 _) d_Ex_runTick_79 (pc' := 82) rfl ?_
      refine xw_iload_n C 0 d_Ex_runTick_82 rfl rfl (pc' := 83) rfl ?_
      refine xw_iret C hr hlk (F := zW ca ad) M7 rfl ?_ d_Ex_runTick_83
      rw [tkF_none hq, hM7, hM2]; exact ⟨rfl, rfl⟩
    ·
      exact absurd rfl h32
  ·
    refine xw_topi (y := nI t) ((hk1 _ _ (by omega)).trans (by rw [ho1, hq]; rfl)) ?_
    have htn := ho2 t hq
    refine xw_istore_n C d_Ex_runTick_27 rfl (by decide) rfl (pc' := 28) rfl ?_
    refine xw_iconst C (v := (-1)) d_Ex_runTick_28 (by decide) (pc' := 29) rfl ?_
    refine xw_istore_n C d_Ex_runTick_29 rfl (by decide) rfl (pc' := 30) rfl ?_
    refine xw_iload_n C 1 d_Ex_runTick_30 rfl rfl (pc' := 31) rfl ?_
    refine xw_iconst C (v := (-1)) d_Ex_runTick_31 (by decide) (pc' := 32) rfl ?_
    refine xw_icmp_eq C (tgt := 72) d_Ex_runTick_32 (by decide) (pc' := 35) rfl (fun h32 => ?_) (fun h32 => ?_)
    ·
      exact absurd h32 (xp_nem1 (by omega))
    ·
      refine xw_aload_n C 2 d_Ex_runTick_35 rfl rfl (pc' := 36) rfl ?_
      refine xw_get C u_Ex 0 zr_0 rfl 0 (by decide) k_182 rfl rfl d_Ex_runTick_36 (pc' := 39) rfl ?_
      refine xw_get C u_Tl 1 zr_1 rfl 0 (by decide) k_125 rfl rfl d_Ex_runTick_39 (pc' := 42) rfl ?_
      refine xw_iload_n C 1 d_Ex_runTick_42 rfl rfl (pc' := 43) rfl ?_
      refine xw_aald C 2 1 zr_2 rfl t rfl (by omega) (by decide) rfl d_Ex_runTick_43 (pc' := 44) rfl ?_
      refine xw_get C u_Tk (14 + t) (zr_Tk (t := t) (by omega)) rfl 5 (by decide) k_105 rfl rfl d_Ex_runTick_44 (pc' := 47) rfl ?_
      refine xw_get C u_Jb (20 + t) (zr_Jb (t := t) (by omega)) rfl 4 (by decide) k_77 rfl rfl d_Ex_runTick_47 (pc' := 50) rfl ?_
      rcases hJ1 t htn with hop | ⟨hop, pl, hd, hpb, hhb, hpl, hhd⟩
      ·
        refine xw_topi (y := nI 0) hop ?_
        refine xw_if_eq C (tgt := 72) d_Ex_runTick_50 (by decide) (pc' := 53) rfl (fun h50 => ?_) (fun h50 => ?_)
        ·
          replace h50 : 0 = 0 := (xp_eq0 (by omega)).mp h50
          refine xw_aload_n C 2 d_Ex_runTick_72 rfl rfl (pc' := 73) rfl ?_
          refine xw_dup C d_Ex_runTick_73 rfl (pc' := 74) rfl ?_
          refine xw_get C u_Ex 0 zr_0 rfl 7 (by decide) k_189 rfl rfl d_Ex_runTick_74 (pc' := 77) rfl ?_
          refine xw_topi (y := nI tm) hn1 ?_
          refine xw_iconst C (v := nI 1) d_Ex_runTick_77 (by decide) (pc' := 78) rfl ?_
          refine xw_iadd C d_Ex_runTick_78 (pc' := 79) rfl ?_
          refine xw_topi (y := nI (tm + 1)) (nI_add _ _) ?_
          obtain ⟨M8, hM8⟩ : ∃ zq, zq = zst M2 0 2 (nI (tm + 1)) := ⟨_, rfl⟩
          refine xw_put C u_Ex t_Ex t_Ex_ok n_Ex 0 zr_0 rfl 7 (by decide) k_189 rfl rfl (t_Ex_ok 7 (by decide)) rfl rfl (Nat.le_of_ble_eq_true rfl) (ws' := zW ca ad M8) (by rw [hM8]; exact zs_0_2 _) d_Ex_runTick_79 (pc' := 82) rfl ?_
          refine xw_iload_n C 0 d_Ex_runTick_82 rfl rfl (pc' := 83) rfl ?_
          refine xw_iret C hr hlk (F := zW ca ad) M8 rfl ?_ d_Ex_runTick_83
          rw [tkF_idle hq (by rw [← hM2]; exact hop), hM8, hM2]; exact ⟨rfl, rfl⟩
        ·
          replace h50 : ¬ (0 = 0) := fun hneg => h50 ((xp_eq0 (by omega)).mpr hneg)
          omega
      ·
        refine xw_topi (y := nI 1) hop ?_
        have hwt := hT.2.2 t htn
        refine xw_if_eq C (tgt := 72) d_Ex_runTick_50 (by decide) (pc' := 53) rfl (fun h50 => ?_) (fun h50 => ?_)
        ·
          replace h50 : 1 = 0 := (xp_eq0 (by omega)).mp h50
          omega
        ·
          replace h50 : ¬ (1 = 0) := fun hneg => h50 ((xp_eq0 (by omega)).mpr hneg)
          refine xw_iload_n C 1 d_Ex_runTick_53 rfl rfl (pc' := 54) rfl ?_
          refine xw_bipush C (v := nI 100) d_Ex_runTick_54 (by decide) (pc' := 56) rfl ?_
          refine xw_aload_n C 2 d_Ex_runTick_56 rfl rfl (pc' := 57) rfl ?_
          refine xw_aload_n C 2 d_Ex_runTick_57 rfl rfl (pc' := 58) rfl ?_
          refine xw_get C u_Ex 0 zr_0 rfl 0 (by decide) k_182 rfl rfl d_Ex_runTick_58 (pc' := 61) rfl ?_
          refine xw_get C u_Tl 1 zr_1 rfl 0 (by decide) k_125 rfl rfl d_Ex_runTick_61 (pc' := 64) rfl ?_
          refine xw_iload_n C 1 d_Ex_runTick_64 rfl rfl (pc' := 65) rfl ?_
          refine xw_aald C 2 1 zr_2 rfl t rfl (by omega) (by decide) rfl d_Ex_runTick_65 (pc' := 66) rfl ?_
          refine xw_callVi C (c_Ex_serve l D ca ad M2 t pl hd (wk t) (by omega) hpl hpb hhd (by omega) ((hk1 _ _ (by omega)).trans hwt.2.1) (by omega)) ⟨zg_B C 1 k_523 k_24 k_526 q_Ex_serve ⟨by decide, by decide⟩, C.2.2.2.2.1 _ k_525, C.2.2.2.2.1 _ k_9⟩ 0 zr_0 rfl rfl (fun _ _ _ _ h => h) (fun _ _ _ _ _ _ _ => trivial) rfl rfl (Nat.le_of_ble_eq_true rfl) d_Ex_runTick_66 ⟨by decide, by decide⟩ (pc' := 69) rfl (fun r9 M10 hp11 => ?_)
          obtain ⟨hM10, hre⟩ := hp11
          rw [hre]
          clear hre
          have hn1 : M10 0 2 = nI tm := by rw [hM10, zSv_out (by omega) (by omega) (by omega) (by omega)]; exact hn1
          refine xw_imul C d_Ex_runTick_69 (pc' := 70) rfl ?_
          refine xw_topi (y := nI (100 * (sv_out (lowb 4 (M2 11 pl)) hd (wk t)))) (pk_mul _ _) ?_
          refine xw_iadd C d_Ex_runTick_70 (pc' := 71) rfl ?_
          refine xw_topi (y := nI (t + (100 * (sv_out (lowb 4 (M2 11 pl)) hd (wk t))))) (nI_add _ _) ?_
          refine xw_istore_n C d_Ex_runTick_71 rfl (by decide) rfl (pc' := 72) rfl ?_
          refine xw_aload_n C 2 d_Ex_runTick_72 rfl rfl (pc' := 73) rfl ?_
          refine xw_dup C d_Ex_runTick_73 rfl (pc' := 74) rfl ?_
          refine xw_get C u_Ex 0 zr_0 rfl 7 (by decide) k_189 rfl rfl d_Ex_runTick_74 (pc' := 77) rfl ?_
          refine xw_topi (y := nI tm) hn1 ?_
          refine xw_iconst C (v := nI 1) d_Ex_runTick_77 (by decide) (pc' := 78) rfl ?_
          refine xw_iadd C d_Ex_runTick_78 (pc' := 79) rfl ?_
          refine xw_topi (y := nI (tm + 1)) (nI_add _ _) ?_
          obtain ⟨M12, hM12⟩ : ∃ zq, zq = zst M10 0 2 (nI (tm + 1)) := ⟨_, rfl⟩
          refine xw_put C u_Ex t_Ex t_Ex_ok n_Ex 0 zr_0 rfl 7 (by decide) k_189 rfl rfl (t_Ex_ok 7 (by decide)) rfl rfl (Nat.le_of_ble_eq_true rfl) (ws' := zW ca ad M12) (by rw [hM12]; exact zs_0_2 _) d_Ex_runTick_79 (pc' := 82) rfl ?_
          refine xw_iload_n C 0 d_Ex_runTick_82 rfl rfl (pc' := 83) rfl ?_
          refine xw_iret C hr hlk (F := zW ca ad) M12 rfl ?_ d_Ex_runTick_83
          rw [tkF_busy (pl := pl) (hd := hd) hq (by rw [← hM2]; exact hop) (by rw [← hM2]; exact hpl) (by rw [← hM2]; exact hhd) hpb (by omega), hM12, hM10, hM2]; exact ⟨rfl, rfl⟩
end
section
/-- the words of a throw that move by laws of their own; the texts -/
def zK : List Cond := [.declares ⟨"java/lang/RuntimeException", "<init>", "()V"⟩, .declares ⟨"java/lang/RuntimeException", "<init>", "(Ljava/lang/String;)V"⟩, .declares ⟨"java/lang/Exception", "<init>", "()V"⟩, .declares ⟨"java/lang/Exception", "<init>", "(Ljava/lang/String;)V"⟩, .declares ⟨"java/lang/Throwable", "<init>", "()V"⟩, .declares ⟨"java/lang/Throwable", "<init>", "(Ljava/lang/String;)V"⟩, .castable "java/lang/IllegalStateException" "java/lang/IllegalStateException", .castable "java/lang/IndexOutOfBoundsException" "java/lang/IndexOutOfBoundsException", .castable "java/lang/IllegalArgumentException" "java/lang/IllegalArgumentException"]
def zS : List (Nat × String) := [(67, "there are 6 tasks"), (78, "no such task can be"), (113, "no such slot can be"), (119, "there is no slot"), (140, "not 1 .. 500 ticks"), (148, "the mode is not EDIT"), (150, "the mode is not RUN"), (154, "there is no such number")]
theorem xa_ISE_g : ∀ w ∈ (vx_atS "TabledExecutive" 69 "java/lang/IllegalStateException" ["java/lang/RuntimeException", "java/lang/Exception"]).filter goodWord, w ∈ lw_tbl := by decide +kernel
theorem xa_ISE_n : ∀ w ∈ (vx_atS "TabledExecutive" 69 "java/lang/IllegalStateException" ["java/lang/RuntimeException", "java/lang/Exception"]).filter (fun w => !goodWord w), w ∈ zK := by decide +kernel
theorem xa_ISE_o : ∀ w ∈ Cond.classLink "TabledExecutive" 65 "java/lang/IllegalStateException" :: Cond.initialized "java/lang/IllegalStateException" :: vx_atS "TabledExecutive" 69 "java/lang/IllegalStateException" ["java/lang/RuntimeException", "java/lang/Exception"], vx_ot w = true := by decide +kernel
theorem xa_IOE_g : ∀ w ∈ (vx_atS "TabledExecutive" 156 "java/lang/IndexOutOfBoundsException" ["java/lang/RuntimeException", "java/lang/Exception"]).filter goodWord, w ∈ lw_tbl := by decide +kernel
theorem xa_IOE_n : ∀ w ∈ (vx_atS "TabledExecutive" 156 "java/lang/IndexOutOfBoundsException" ["java/lang/RuntimeException", "java/lang/Exception"]).filter (fun w => !goodWord w), w ∈ zK := by decide +kernel
theorem xa_IOE_o : ∀ w ∈ Cond.classLink "TabledExecutive" 152 "java/lang/IndexOutOfBoundsException" :: Cond.initialized "java/lang/IndexOutOfBoundsException" :: vx_atS "TabledExecutive" 156 "java/lang/IndexOutOfBoundsException" ["java/lang/RuntimeException", "java/lang/Exception"], vx_ot w = true := by decide +kernel
theorem xa_IAE_g : ∀ w ∈ (vx_atS "TabledExecutive" 80 "java/lang/IllegalArgumentException" ["java/lang/RuntimeException", "java/lang/Exception"]).filter goodWord, w ∈ lw_tbl := by decide +kernel
theorem xa_IAE_n : ∀ w ∈ (vx_atS "TabledExecutive" 80 "java/lang/IllegalArgumentException" ["java/lang/RuntimeException", "java/lang/Exception"]).filter (fun w => !goodWord w), w ∈ zK := by decide +kernel
theorem xa_IAE_o : ∀ w ∈ Cond.classLink "TabledExecutive" 76 "java/lang/IllegalArgumentException" :: Cond.initialized "java/lang/IllegalArgumentException" :: vx_atS "TabledExecutive" 80 "java/lang/IllegalArgumentException" ["java/lang/RuntimeException", "java/lang/Exception"], vx_ot w = true := by decide +kernel
theorem zK_on : ∀ w ∈ zK, w.onTables = true := by decide +kernel
theorem zK_warm {w : Cond} {s U : State} (hw : w ∈ zK) (hW : s.WarmedH U.vm) (h : va_Nw w s) : va_Nw w U := by
  simp only [zK, List.mem_cons, List.not_mem_nil, or_false] at hw
  rcases hw with rfl | rfl | rfl | rfl | rfl | rfl | rfl | rfl | rfl
  · exact va_Nw.warmD hW h
  · exact va_Nw.warmD hW h
  · exact va_Nw.warmD hW h
  · exact va_Nw.warmD hW h
  · exact va_Nw.warmD hW h
  · exact va_Nw.warmD hW h
  · exact va_Nw.warmC hW h
  · exact va_Nw.warmC hW h
  · exact va_Nw.warmC hW h
def zKX (sa : Nat → Nat) (A : Nat → Prop) (U : State) (H : Heap) : Prop := (∀ w ∈ zK, va_Nw w U) ∧ (∀ q ∈ zS, vk_R "TabledExecutive" q.1 q.2 (sa q.1) U) ∧ vx_Zq Bundle.tN "UNASSIGNED_STACK" Bundle.steD A U H ∧ vx_Zq Bundle.tN "SUPPRESSED_SENTINEL" Bundle.listD A U H
theorem zKX.same {sa : Nat → Nat} {A : Nat → Prop} {u U : State} {H : Heap} (hv : U.vm = u.vm) (h : zKX sa A u H) : zKX sa A U H := by
  obtain ⟨a, b, c, d⟩ := h
  have al : u.vm.Alike U.vm := by rw [hv]; exact Vm.Alike.refl _
  exact ⟨fun w hw => va_Nw.same (zK_on w hw) hv.symm (a w hw), fun q hq => vk_R.same hv (b q hq), c.moved al, d.moved al⟩
theorem zKX.at {sa : Nat → Nat} {A : Nat → Prop} {s U : State} {H : Heap} {locs : List Loc} {ws : va_W} (h : zKX sa A s s.heap) (hA : ∀ q, s.heap.size ≤ q → A q) (hD : va_D A ws) (hS : va_S A s.heap H locs) (hU : U.heap = H) (hW : s.WarmedH U.vm) : zKX sa (va_A ws U.heap.size) U U.heap := by
  obtain ⟨a, b, c, d⟩ := h
  subst hU
  have hF := xw_free hD hS hA
  exact ⟨fun w hw => zK_warm hw hW (a w hw), fun q hq => vk_R.warm hW (b q hq), ((c.kept hS.2.1).moved hW.alike).narrow hF, ((d.kept hS.2.1).moved hW.alike).narrow hF⟩
theorem zKX.call {sa : Nat → Nat} {ws : va_W} {U : State} {g : JFrame} {mk : MethodId} {a : Array Value} (h : zKX sa (va_A ws U.heap.size) U U.heap) : zKX sa (va_A ws (U.calling g mk a).heap.size) (U.calling g mk a) (U.calling g mk a).heap := by
  have e : (U.calling g mk a).heap = U.heap := rfl
  rw [e]
  exact zKX.same (u := U) (U := U.calling g mk a) rfl h
section ZTH
variable {p : Program} {l : Launch} {e : Env} {R : Room} {s : State} {m : MethodId} {args : Array Value} {below : List Frame} {meth : Method} {c : Code} {cells slots : Nat}
variable {cc : ByteArray} {nL pc : Nat} {own : String} {D : va_G} {cl : List vw_C} {tys : List (ClassId × FieldType)} {A : Nat → Prop} {ws : va_W} {lv : List (Nat × Value)} {rest : List Value}
theorem xw_throwK (C : xw_C p s m args c cc nL own zG D cl tys A s.heap) (hl0 : l.stackTraces = false) (hlk : meth.locks = false) (hno : ∀ x ∈ c.exceptionTable.toList, False) {S : Type} {Qc : Array Value → State → Outcome → State → Prop} {F : S → va_W} {pe : String → S → Prop} {cls text : String} {names : List String} {ik is ic mc ms : Nat} {sa : Nat → Nat}
    (hcls : Bundle.fit cls = true) (hnames : ∀ n ∈ names, Bundle.fit n = true) (hk : Cond.classLink own ik cls ∈ zG) (hini : Cond.initialized cls ∈ zG) (hKX : zKX sa A s s.heap) (hstr : vk_R own is text (sa is) s) (hg : ∀ w ∈ (vx_atS own ic cls names).filter goodWord, w ∈ lw_tbl) (hng : ∀ w ∈ (vx_atS own ic cls names).filter (fun w => !goodWord w), w ∈ zK)
    (hgood : ∀ w ∈ Cond.classLink own ik cls :: Cond.initialized cls :: vx_atS own ic cls names, vx_ot w = true)
    (d0 : decode cc pc = .ok (.new ik, 3)) (d3 : decode cc (pc + 3) = .ok (.dup, 1)) (d4 : decode cc (pc + 4) = .ok (.ldc is, 2)) (d6 : decode cc (pc + 6) = .ok (.invokespecial ic, 3)) (d9 : decode cc (pc + 9) = .ok (.athrow, 1))
    (hRframes : names.length + 3 < R.frames) (hRlocals : (rest.map fun v => v.category).sum + (13 * (names.length + 1) + 43) ≤ R.locals) (hRcells : cells + 1 ≤ R.cells) (hRslots : slots + 6 ≤ R.slots)
    (u : S) (hF : F u = ws) (hu : pe cls u) (hc : cells + 1 ≤ mc) (hs : slots + 6 ≤ ms) :
    XW p l e R s m args below meth c D cl A s.heap nL ws cells slots (vx_MQ below Qc (xw_XC D cl tys A F pe) args s mc ms A) pc lv rest := by
  subst hF
  intro H locs ls hP hD hS hl
  have hat : ∀ w ∈ vx_atS own ic cls names, w.before args s = true := by
    intro w hw
    by_cases g : goodWord w = true
    · exact C.2.2.2.2.1 w (List.mem_filter.mpr ⟨hg w (List.mem_filter.mpr ⟨hw, g⟩), g⟩)
    · have hz := hng w (List.mem_filter.mpr ⟨hw, by simpa using g⟩)
      exact va_Nw.use (zK_on w hz) (hKX.1 w hz)
  refine vx_throwS C.1 C.2.1 hl0 C.2.2.2.1 hcls hnames (C.2.2.2.2.1 _ hk) (C.2.2.2.2.1 _ hini) hstr hat hgood hKX.2.2.1 hKX.2.2.2 hS (hl.1.trans C.2.2.1.symm) d0 d3 d4 d6 d9 (fun x hx => (hno x hx).elim) hRframes hRlocals hRcells hRslots hlk (fun t hal hsz hkp => ?_) hS.2.2 hc hs
  have hP1 : va_P D cl (F u) t.heap := hP.kept (fun k q hk => hkp q.1 (vx_lt hP hk))
  refine ⟨u, trivial, ⟨hu, hP1, va_K.moved hal C.2.2.2.2.2.1, hD⟩, ?_⟩
  refine ⟨Nat.le_trans hS.1 hsz, fun q h1 h2 => ?_⟩
  rw [hkp q (Nat.lt_of_lt_of_le h1 hS.1)]
  exact hS.2.1 q h1 h2
end ZTH

set_option maxHeartbeats 4000000 in
set_option maxRecDepth 100000 in
/-- needEdit -/
theorem c_Ex_needEdit (l : Launch) (hl0 : l.stackTraces = false) (D : va_G) (ca : Nat → ClassId) (ad : Nat → Nat) (M : Nat → Nat → Int32) (sa : Nat → Nat) (md : Nat) (hmd : M 0 0 = nI md) (hmb : md ≤ 1) : xw_Xv l y_Ex_needEdit (.code y_Ex_needEdit b_Ex_needEdit 1 none :: zG) { frames := 6, cells := 1, slots := 6, locals := 82 } D zCl (zT ca) [.ref (ad 0)] (zW ca ad M) (fun U => zKX sa (va_A (zW ca ad M) U.heap.size) U U.heap) 1 6 (zW ca ad) (fun M' => M' = M ∧ md = 0) (fun E M' => M' = M ∧ E = "java/lang/IllegalStateException" ∧ md = 1) := by
  intro sz
  refine xw_metX (cc := b_Ex_needEdit) (maxL := 1) (ret := none) (by decide) rfl (Nat.le_of_ble_eq_true rfl) (fun p e s m args below meth c hr hlk hno hsz hKs C => ?_)
  rw [hsz] at hKs
  have hKs : zKX sa (va_A (zW ca ad M) sz) s s.heap := hKs
  refine xw_lvE (lv' := [(0, .ref (ad 0))]) rfl ?_
  refine xw_aload_n C 0 d_Ex_needEdit_0 rfl rfl (pc' := 1) rfl ?_
  refine xw_get C u_Ex 0 zr_0 rfl 5 (by decide) k_187 rfl rfl d_Ex_needEdit_1 (pc' := 4) rfl ?_
  refine xw_topi (y := nI md) hmd ?_
  refine xw_if_eq C (tgt := 17) d_Ex_needEdit_4 (by decide) (pc' := 7) rfl (fun h4 => ?_) (fun h4 => ?_)
  ·
    replace h4 : md = 0 := (xp_eq0 (by omega)).mp h4
    refine xw_vretX C hr hlk (F := zW ca ad) M rfl ?_ d_Ex_needEdit_17 (by decide) (by decide)
    exact ⟨rfl, by omega⟩
  ·
    replace h4 : ¬ (md = 0) := fun hneg => h4 ((xp_eq0 (by omega)).mpr hneg)
    refine xw_throwK C hl0 hlk hno (names := ["java/lang/RuntimeException", "java/lang/Exception"]) (by decide) (by decide) k_240 k_35 hKs (hKs.2.1 (148, "the mode is not EDIT") (by decide)) xa_ISE_g xa_ISE_n xa_ISE_o d_Ex_needEdit_7 d_Ex_needEdit_10 d_Ex_needEdit_11 d_Ex_needEdit_13 d_Ex_needEdit_16 (by decide) (by decide) (by decide) (by decide) (F := zW ca ad) M rfl ?_ (by decide) (by decide)
    exact ⟨rfl, rfl, by omega⟩

set_option maxHeartbeats 4000000 in
set_option maxRecDepth 100000 in
/-- needRun -/
theorem c_Ex_needRun (l : Launch) (hl0 : l.stackTraces = false) (D : va_G) (ca : Nat → ClassId) (ad : Nat → Nat) (M : Nat → Nat → Int32) (sa : Nat → Nat) (md : Nat) (hmd : M 0 0 = nI md) (hmb : md ≤ 1) : xw_Xv l y_Ex_needRun (.code y_Ex_needRun b_Ex_needRun 1 none :: zG) { frames := 6, cells := 1, slots := 6, locals := 82 } D zCl (zT ca) [.ref (ad 0)] (zW ca ad M) (fun U => zKX sa (va_A (zW ca ad M) U.heap.size) U U.heap) 1 6 (zW ca ad) (fun M' => M' = M ∧ md = 1) (fun E M' => M' = M ∧ E = "java/lang/IllegalStateException" ∧ md = 0) := by
  intro sz
  refine xw_metX (cc := b_Ex_needRun) (maxL := 1) (ret := none) (by decide) rfl (Nat.le_of_ble_eq_true rfl) (fun p e s m args below meth c hr hlk hno hsz hKs C => ?_)
  rw [hsz] at hKs
  have hKs : zKX sa (va_A (zW ca ad M) sz) s s.heap := hKs
  refine xw_lvE (lv' := [(0, .ref (ad 0))]) rfl ?_
  refine xw_aload_n C 0 d_Ex_needRun_0 rfl rfl (pc' := 1) rfl ?_
  refine xw_get C u_Ex 0 zr_0 rfl 5 (by decide) k_187 rfl rfl d_Ex_needRun_1 (pc' := 4) rfl ?_
  refine xw_topi (y := nI md) hmd ?_
  refine xw_if_ne C (tgt := 17) d_Ex_needRun_4 (by decide) (pc' := 7) rfl (fun h4 => ?_) (fun h4 => ?_)
  ·
    replace h4 : ¬ (md = 0) := fun hneg => h4 ((xp_eq0 (by omega)).mpr hneg)
    refine xw_vretX C hr hlk (F := zW ca ad) M rfl ?_ d_Ex_needRun_17 (by decide) (by decide)
    exact ⟨rfl, by omega⟩
  ·
    replace h4 : md = 0 := (xp_eq0 (by omega)).mp h4
    refine xw_throwK C hl0 hlk hno (names := ["java/lang/RuntimeException", "java/lang/Exception"]) (by decide) (by decide) k_240 k_35 hKs (hKs.2.1 (150, "the mode is not RUN") (by decide)) xa_ISE_g xa_ISE_n xa_ISE_o d_Ex_needRun_7 d_Ex_needRun_10 d_Ex_needRun_11 d_Ex_needRun_13 d_Ex_needRun_16 (by decide) (by decide) (by decide) (by decide) (F := zW ca ad) M rfl ?_ (by decide) (by decide)
    exact ⟨rfl, rfl, by omega⟩

set_option maxHeartbeats 4000000 in
set_option maxRecDepth 100000 in
/-- needIndex -/
theorem c_Ex_needIndex (l : Launch) (hl0 : l.stackTraces = false) (D : va_G) (ca : Nat → ClassId) (ad : Nat → Nat) (M : Nat → Nat → Int32) (sa : Nat → Nat) (x y : Int32)  : xw_Xv l y_Ex_needIndex (.code y_Ex_needIndex b_Ex_needIndex 2 none :: zG) { frames := 6, cells := 1, slots := 6, locals := 82 } D zCl (zT ca) [.int x, .int y] (zW ca ad M) (fun U => zKX sa (va_A (zW ca ad M) U.heap.size) U U.heap) 1 6 (zW ca ad) (fun M' => M' = M ∧ ¬ x < 0 ∧ x < y) (fun E M' => M' = M ∧ E = "java/lang/IndexOutOfBoundsException" ∧ ¬ (¬ x < 0 ∧ x < y)) := by
  intro sz
  refine xw_metX (cc := b_Ex_needIndex) (maxL := 2) (ret := none) (by decide) rfl (Nat.le_of_ble_eq_true rfl) (fun p e s m args below meth c hr hlk hno hsz hKs C => ?_)
  rw [hsz] at hKs
  have hKs : zKX sa (va_A (zW ca ad M) sz) s s.heap := hKs
  refine xw_lvE (lv' := [(0, .int x), (1, .int y)]) rfl ?_
  refine xw_iload_n C 0 d_Ex_needIndex_0 rfl rfl (pc' := 1) rfl ?_
  refine xw_if_lt C (tgt := 9) d_Ex_needIndex_1 (by decide) (pc' := 4) rfl (fun h1 => ?_) (fun h1 => ?_)
  ·
    refine xw_throwK C hl0 hlk hno (names := ["java/lang/RuntimeException", "java/lang/Exception"]) (by decide) (by decide) k_311 k_36 hKs (hKs.2.1 (154, "there is no such number") (by decide)) xa_IOE_g xa_IOE_n xa_IOE_o d_Ex_needIndex_9 d_Ex_needIndex_12 d_Ex_needIndex_13 d_Ex_needIndex_15 d_Ex_needIndex_18 (by decide) (by decide) (by decide) (by decide) (F := zW ca ad) M rfl ?_ (by decide) (by decide)
    exact ⟨rfl, rfl, fun h9 => by first | exact h9.1 h1 | exact h6 h9.2⟩
  ·
    refine xw_iload_n C 0 d_Ex_needIndex_4 rfl rfl (pc' := 5) rfl ?_
    refine xw_iload_n C 1 d_Ex_needIndex_5 rfl rfl (pc' := 6) rfl ?_
    refine xw_icmp_lt C (tgt := 19) d_Ex_needIndex_6 (by decide) (pc' := 9) rfl (fun h6 => ?_) (fun h6 => ?_)
    ·
      refine xw_vretX C hr hlk (F := zW ca ad) M rfl ?_ d_Ex_needIndex_19 (by decide) (by decide)
      exact ⟨rfl, h1, h6⟩
    ·
      refine xw_throwK C hl0 hlk hno (names := ["java/lang/RuntimeException", "java/lang/Exception"]) (by decide) (by decide) k_311 k_36 hKs (hKs.2.1 (154, "there is no such number") (by decide)) xa_IOE_g xa_IOE_n xa_IOE_o d_Ex_needIndex_9 d_Ex_needIndex_12 d_Ex_needIndex_13 d_Ex_needIndex_15 d_Ex_needIndex_18 (by decide) (by decide) (by decide) (by decide) (F := zW ca ad) M rfl ?_ (by decide) (by decide)
      exact ⟨rfl, rfl, fun h9 => by first | exact h9.1 h1 | exact h6 h9.2⟩
end
section
theorem xp_minI {k : Nat} (hk : k ≤ 60) : (if nI 60 < nI (k + 1) then nI 60 else nI (k + 1)) = nI (if 60 < k + 1 then 60 else k + 1) := by
  by_cases c9 : 60 < k + 1
  · rw [if_pos c9, if_pos ((nI_ltI (by omega) (by omega)).mpr c9)]
  · rw [if_neg c9, if_neg (fun h9 => c9 ((nI_ltI (by omega) (by omega)).mp h9))]
theorem xp_ix {x : Int32} {n : Nat} (hn : n < 2 ^ 31) (h0 : ¬ x < 0) (h1 : x < nI n) : ∃ j, j < n ∧ x = nI j := by
  obtain ⟨j, hj, rfl⟩ := nI_of h0
  exact ⟨j, (nI_ltI hj hn).mp h1, rfl⟩
theorem xp_rg {x : Int32} {a b : Nat} (ha : a < 2 ^ 31) (hb : b < 2 ^ 31) (h0 : ¬ x < nI a) (h1 : ¬ nI b < x) : ∃ j, a ≤ j ∧ j ≤ b ∧ x = nI j := by
  have e0 : ¬ x < 0 := fun h => h0 (Int32.lt_of_lt_of_le h (nI_pos' ha))
  obtain ⟨j, hj, rfl⟩ := nI_of e0
  refine ⟨j, ?_, ?_, rfl⟩
  · rcases Nat.lt_or_ge j a with c | c
    · exact absurd ((nI_ltI hj ha).mpr c) h0
    · exact c
  · rcases Nat.lt_or_ge b j with c | c
    · exact absurd ((nI_ltI hb hj).mpr c) h1
    · exact c
/-- a task as isTask wants it -/
def sp_isT (p w d o : Int32) : Prop := ¬ p < nI 1 ∧ ¬ nI 48 < p ∧ ¬ w < nI 1 ∧ ¬ d < w ∧ ¬ p < d ∧ ¬ o < 0 ∧ ¬ nI 48 < o

set_option maxHeartbeats 4000000 in
set_option maxRecDepth 100000 in
/-- load -/
theorem c_Ex_load (l : Launch) (hl0 : l.stackTraces = false) (D : va_G) (ca : Nat → ClassId) (ad : Nat → Nat) (M : Nat → Nat → Int32) (sa : Nat → Nat) (md : Nat) (x v : Int32) (hmd : M 0 0 = nI md) (hmb : md ≤ 1) : xw_Xv l y_Ex_load (.code y_Ex_load b_Ex_load 3 none :: zG) { frames := 7, cells := 2, slots := 12, locals := 120 } D zCl (zT ca) [.ref (ad 0), .int x, .int v] (zW ca ad M) (fun U => zKX sa (va_A (zW ca ad M) U.heap.size) U U.heap) 2 12 (zW ca ad) (fun M' => md = 0 ∧ ∃ j, j < 64 ∧ x = nI j ∧ M' = zst M 11 j v) (fun E M' => M' = M ∧ (md = 1 ∧ E = "java/lang/IllegalStateException" ∨ md = 0 ∧ E = "java/lang/IndexOutOfBoundsException" ∧ ¬ (¬ x < 0 ∧ x < nI 64))) := by
  intro sz
  refine xw_metX (cc := b_Ex_load) (maxL := 3) (ret := none) (by decide) rfl (Nat.le_of_ble_eq_true rfl) (fun p e s m args below meth c hr hlk hno hsz hKs C => ?_)
  rw [hsz] at hKs
  have hKs : zKX sa (va_A (zW ca ad M) sz) s s.heap := hKs
  refine xw_lvE (lv' := [(0, .ref (ad 0)), (1, .int x), (2, .int v)]) rfl ?_
  refine xw_aload_n C 0 d_Ex_load_0 rfl rfl (pc' := 1) rfl ?_
  refine xw_callXVv C (c_Ex_needEdit l hl0 D ca ad M sa md hmd hmb) ⟨zg_B C 0 k_236 k_24 k_239 q_Ex_needEdit ⟨by decide, by decide⟩, C.2.2.2.2.1 _ k_238, C.2.2.2.2.1 _ k_1⟩ 0 zr_0 rfl rfl (fun _ _ _ _ h => h.call) (fun _ _ _ hD hS hU hW => hKs.at C.2.2.2.2.2.2 hD hS hU hW) rfl rfl (Nat.le_of_ble_eq_true rfl) d_Ex_load_1 ⟨by decide, by decide⟩ (pc' := 4) rfl (fun E u hx => xx_out C hlk hno (F := zW ca ad) u rfl (by exact ⟨hx.1, Or.inl ⟨hx.2.2, hx.2.1⟩⟩) (by decide) (by decide)) (fun M2 hp3 => ?_)
  obtain ⟨hme, hmd0⟩ := hp3
  rw [hme]
  clear hme
  refine xw_iload_n C 1 d_Ex_load_4 rfl rfl (pc' := 5) rfl ?_
  refine xw_bipush C (v := nI 64) d_Ex_load_5 (by decide) (pc' := 7) rfl ?_
  refine xw_callXSv C (c_Ex_needIndex l hl0 D ca ad M sa x (nI 64)) ⟨zg_B C 2 k_308 k_24 k_310 q_Ex_needIndex ⟨by decide, by decide⟩, C.2.2.2.2.1 _ k_309⟩ (fun _ _ _ _ h => h.call) (fun _ _ _ hD hS hU hW => hKs.at C.2.2.2.2.2.2 hD hS hU hW) rfl rfl (Nat.le_of_ble_eq_true rfl) d_Ex_load_7 ⟨by decide, by decide⟩ (pc' := 10) rfl (fun E u hx => xx_out C hlk hno (F := zW ca ad) u rfl (by exact ⟨hx.1, Or.inr ⟨hmd0, hx.2.1, hx.2.2⟩⟩) (by decide) (by decide)) (fun M5 hp6 => ?_)
  obtain ⟨hme, hi0, hi1⟩ := hp6
  rw [hme]
  clear hme
  obtain ⟨j, hb_j, he_j⟩ := xp_ix (n := 64) (by omega) hi0 hi1
  subst he_j
  refine xw_aload_n C 0 d_Ex_load_10 rfl rfl (pc' := 11) rfl ?_
  refine xw_get C u_Ex 0 zr_0 rfl 3 (by decide) k_185 rfl rfl d_Ex_load_11 (pc' := 14) rfl ?_
  refine xw_get C u_Mc 10 zr_10 rfl 0 (by decide) k_174 rfl rfl d_Ex_load_14 (pc' := 17) rfl ?_
  refine xw_iload_n C 1 d_Ex_load_17 rfl rfl (pc' := 18) rfl ?_
  refine xw_iload_n C 2 d_Ex_load_18 rfl rfl (pc' := 19) rfl ?_
  obtain ⟨M7, hM7⟩ : ∃ zq, zq = zst M 11 j v := ⟨_, rfl⟩
  refine xw_iast C 11 0 zr_11 rfl j rfl (by omega) (by decide) (ws' := zW ca ad M7) (by rw [hM7]; exact zs_11 _ _) d_Ex_load_19 (pc' := 20) rfl ?_
  refine xw_vretX C hr hlk (F := zW ca ad) M7 rfl ?_ d_Ex_load_20 (by decide) (by decide)
  exact ⟨hmd0, j, hb_j, rfl, hM7⟩

set_option maxHeartbeats 4000000 in
set_option maxRecDepth 100000 in
/-- isTask -/
theorem c_Ex_isTask (l : Launch) (D : va_G) (ca : Nat → ClassId) (ad : Nat → Nat) (M : Nat → Nat → Int32) (x y z o : Int32)  : xw_Mi l y_Ex_isTask (.code y_Ex_isTask b_Ex_isTask 4 (some .boolean) :: zG) { frames := 0, cells := 0, slots := 0, locals := 0 } D zCl (zT ca) [.int x, .int y, .int z, .int o] (zW ca ad M) (fun _ => True) 0 0 (zW ca ad) (fun r M' => M' = M ∧ (sp_isT x y z o ∧ r = nI 1 ∨ ¬ sp_isT x y z o ∧ r = nI 0)) := by
  intro sz
  refine xw_met (cc := b_Ex_isTask) (maxL := 4) (ret := (some .boolean)) (by decide) rfl (Nat.le_of_ble_eq_true rfl) (fun p e s m args below meth c hr hlk hnm hsz hKs C => ?_)
  refine xw_lvE (lv' := [(0, .int x), (1, .int y), (2, .int z), (3, .int o)]) rfl ?_
  refine xw_iload_n C 0 d_Ex_isTask_0 rfl rfl (pc' := 1) rfl ?_
  refine xw_iconst C (v := nI 1) d_Ex_isTask_1 (by decide) (pc' := 2) rfl ?_
  refine xw_icmp_lt C (tgt := 40) d_Ex_isTask_2 (by decide) (pc' := 5) rfl (fun h2 => ?_) (fun h2 => ?_)
  ·
    refine xw_iconst C (v := nI 0) d_Ex_isTask_40 (by decide) (pc' := 41) rfl ?_
    refine xw_zret C hr hlk xp_n0 (F := zW ca ad) M rfl ?_ d_Ex_isTask_41
    exact ⟨rfl, Or.inr ⟨fun h9 => by obtain ⟨g1, g2, g3, g4, g5, g6, g7⟩ := h9; first | exact g1 h2 | exact g2 h8 | exact g3 h13 | exact g4 h18 | exact g5 h23 | exact g6 h27 | exact g7 h33, rfl⟩⟩
  ·
    refine xw_iload_n C 0 d_Ex_isTask_5 rfl rfl (pc' := 6) rfl ?_
    refine xw_bipush C (v := nI 48) d_Ex_isTask_6 (by decide) (pc' := 8) rfl ?_
    refine xw_icmp_gt C (tgt := 40) d_Ex_isTask_8 (by decide) (pc' := 11) rfl (fun h8 => ?_) (fun h8 => ?_)
    ·
      refine xw_iconst C (v := nI 0) d_Ex_isTask_40 (by decide) (pc' := 41) rfl ?_
      refine xw_zret C hr hlk xp_n0 (F := zW ca ad) M rfl ?_ d_Ex_isTask_41
      exact ⟨rfl, Or.inr ⟨fun h9 => by obtain ⟨g1, g2, g3, g4, g5, g6, g7⟩ := h9; first | exact g1 h2 | exact g2 h8 | exact g3 h13 | exact g4 h18 | exact g5 h23 | exact g6 h27 | exact g7 h33, rfl⟩⟩
    ·
      refine xw_iload_n C 1 d_Ex_isTask_11 rfl rfl (pc' := 12) rfl ?_
      refine xw_iconst C (v := nI 1) d_Ex_isTask_12 (by decide) (pc' := 13) rfl ?_
      refine xw_icmp_lt C (tgt := 40) d_Ex_isTask_13 (by decide) (pc' := 16) rfl (fun h13 => ?_) (fun h13 => ?_)
      ·
        refine xw_iconst C (v := nI 0) d_Ex_isTask_40 (by decide) (pc' := 41) rfl ?_
        refine xw_zret C hr hlk xp_n0 (F := zW ca ad) M rfl ?_ d_Ex_isTask_41
        exact ⟨rfl, Or.inr ⟨fun h9 => by obtain ⟨g1, g2, g3, g4, g5, g6, g7⟩ := h9; first | exact g1 h2 | exact g2 h8 | exact g3 h13 | exact g4 h18 | exact g5 h23 | exact g6 h27 | exact g7 h33, rfl⟩⟩
      ·
        refine xw_iload_n C 1 d_Ex_isTask_16 rfl rfl (pc' := 17) rfl ?_
        refine xw_iload_n C 2 d_Ex_isTask_17 rfl rfl (pc' := 18) rfl ?_
        refine xw_icmp_gt C (tgt := 40) d_Ex_isTask_18 (by decide) (pc' := 21) rfl (fun h18 => ?_) (fun h18 => ?_)
        ·
          refine xw_iconst C (v := nI 0) d_Ex_isTask_40 (by decide) (pc' := 41) rfl ?_
          refine xw_zret C hr hlk xp_n0 (F := zW ca ad) M rfl ?_ d_Ex_isTask_41
          exact ⟨rfl, Or.inr ⟨fun h9 => by obtain ⟨g1, g2, g3, g4, g5, g6, g7⟩ := h9; first | exact g1 h2 | exact g2 h8 | exact g3 h13 | exact g4 h18 | exact g5 h23 | exact g6 h27 | exact g7 h33, rfl⟩⟩
        ·
          refine xw_iload_n C 2 d_Ex_isTask_21 rfl rfl (pc' := 22) rfl ?_
          refine xw_iload_n C 0 d_Ex_isTask_22 rfl rfl (pc' := 23) rfl ?_
          refine xw_icmp_gt C (tgt := 40) d_Ex_isTask_23 (by decide) (pc' := 26) rfl (fun h23 => ?_) (fun h23 => ?_)
          ·
            refine xw_iconst C (v := nI 0) d_Ex_isTask_40 (by decide) (pc' := 41) rfl ?_
            refine xw_zret C hr hlk xp_n0 (F := zW ca ad) M rfl ?_ d_Ex_isTask_41
            exact ⟨rfl, Or.inr ⟨fun h9 => by obtain ⟨g1, g2, g3, g4, g5, g6, g7⟩ := h9; first | exact g1 h2 | exact g2 h8 | exact g3 h13 | exact g4 h18 | exact g5 h23 | exact g6 h27 | exact g7 h33, rfl⟩⟩
          ·
            refine xw_iload_n C 3 d_Ex_isTask_26 rfl rfl (pc' := 27) rfl ?_
            refine xw_if_lt C (tgt := 40) d_Ex_isTask_27 (by decide) (pc' := 30) rfl (fun h27 => ?_) (fun h27 => ?_)
            ·
              refine xw_iconst C (v := nI 0) d_Ex_isTask_40 (by decide) (pc' := 41) rfl ?_
              refine xw_zret C hr hlk xp_n0 (F := zW ca ad) M rfl ?_ d_Ex_isTask_41
              exact ⟨rfl, Or.inr ⟨fun h9 => by obtain ⟨g1, g2, g3, g4, g5, g6, g7⟩ := h9; first | exact g1 h2 | exact g2 h8 | exact g3 h13 | exact g4 h18 | exact g5 h23 | exact g6 h27 | exact g7 h33, rfl⟩⟩
            ·
              refine xw_iload_n C 3 d_Ex_isTask_30 rfl rfl (pc' := 31) rfl ?_
              refine xw_bipush C (v := nI 48) d_Ex_isTask_31 (by decide) (pc' := 33) rfl ?_
              refine xw_icmp_gt C (tgt := 40) d_Ex_isTask_33 (by decide) (pc' := 36) rfl (fun h33 => ?_) (fun h33 => ?_)
              ·
                refine xw_iconst C (v := nI 0) d_Ex_isTask_40 (by decide) (pc' := 41) rfl ?_
                refine xw_zret C hr hlk xp_n0 (F := zW ca ad) M rfl ?_ d_Ex_isTask_41
                exact ⟨rfl, Or.inr ⟨fun h9 => by obtain ⟨g1, g2, g3, g4, g5, g6, g7⟩ := h9; first | exact g1 h2 | exact g2 h8 | exact g3 h13 | exact g4 h18 | exact g5 h23 | exact g6 h27 | exact g7 h33, rfl⟩⟩
              ·
                refine xw_iconst C (v := nI 1) d_Ex_isTask_36 (by decide) (pc' := 37) rfl ?_
                refine xw_goto C (tgt := 41) d_Ex_isTask_37 (by decide) ?_
                refine xw_zret C hr hlk xp_n1 (F := zW ca ad) M rfl ?_ d_Ex_isTask_41
                exact ⟨rfl, Or.inl ⟨⟨h2, h8, h13, h18, h23, h27, h33⟩, rfl⟩⟩

set_option maxHeartbeats 4000000 in
set_option maxRecDepth 100000 in
/-- task -/
theorem c_Ex_task (l : Launch) (hl0 : l.stackTraces = false) (D : va_G) (ca : Nat → ClassId) (ad : Nat → Nat) (M : Nat → Nat → Int32) (sa : Nat → Nat) (md : Nat) (n : Nat) (x y z o : Int32) (hmd : M 0 0 = nI md) (hmb : md ≤ 1) (hn : n ≤ 6) (hz : M 1 0 = nI n) : xw_Xi l y_Ex_task (.code y_Ex_task b_Ex_task 5 (some .int) :: zG) { frames := 7, cells := 2, slots := 12, locals := 120 } D zCl (zT ca) [.ref (ad 0), .int x, .int y, .int z, .int o] (zW ca ad M) (fun U => zKX sa (va_A (zW ca ad M) U.heap.size) U U.heap) 2 12 (zW ca ad) (fun r M' => md = 0 ∧ n < 6 ∧ sp_isT x y z o ∧ M' = zApp M n x y z o ∧ r = nI n) (fun E M' => M' = M ∧ (md = 1 ∧ E = "java/lang/IllegalStateException" ∨ md = 0 ∧ n = 6 ∧ E = "java/lang/IllegalStateException" ∨ md = 0 ∧ n < 6 ∧ ¬ sp_isT x y z o ∧ E = "java/lang/IllegalArgumentException")) := by
  intro sz
  refine xw_metX (cc := b_Ex_task) (maxL := 5) (ret := (some .int)) (by decide) rfl (Nat.le_of_ble_eq_true rfl) (fun p e s m args below meth c hr hlk hno hsz hKs C => ?_)
  rw [hsz] at hKs
  have hKs : zKX sa (va_A (zW ca ad M) sz) s s.heap := hKs
  refine xw_lvE (lv' := [(0, .ref (ad 0)), (1, .int x), (2, .int y), (3, .int z), (4, .int o)]) rfl ?_
  refine xw_aload_n C 0 d_Ex_task_0 rfl rfl (pc' := 1) rfl ?_
  refine xw_callXVv C (c_Ex_needEdit l hl0 D ca ad M sa md hmd hmb) ⟨zg_B C 0 k_236 k_24 k_239 q_Ex_needEdit ⟨by decide, by decide⟩, C.2.2.2.2.1 _ k_238, C.2.2.2.2.1 _ k_1⟩ 0 zr_0 rfl rfl (fun _ _ _ _ h => h.call) (fun _ _ _ hD hS hU hW => hKs.at C.2.2.2.2.2.2 hD hS hU hW) rfl rfl (Nat.le_of_ble_eq_true rfl) d_Ex_task_1 ⟨by decide, by decide⟩ (pc' := 4) rfl (fun E u hx => xx_out C hlk hno (F := zW ca ad) u rfl (by exact ⟨hx.1, Or.inl ⟨hx.2.2, hx.2.1⟩⟩) (by decide) (by decide)) (fun M2 hp3 => ?_)
  obtain ⟨hme, hmd0⟩ := hp3
  rw [hme]
  clear hme
  refine xw_aload_n C 0 d_Ex_task_4 rfl rfl (pc' := 5) rfl ?_
  refine xw_get C u_Ex 0 zr_0 rfl 0 (by decide) k_182 rfl rfl d_Ex_task_5 (pc' := 8) rfl ?_
  refine xw_get C u_Tl 1 zr_1 rfl 1 (by decide) k_128 rfl rfl d_Ex_task_8 (pc' := 11) rfl ?_
  refine xw_topi (y := nI n) hz ?_
  refine xw_bipush C (v := nI 6) d_Ex_task_11 (by decide) (pc' := 13) rfl ?_
  refine xw_icmp_ne C (tgt := 26) d_Ex_task_13 (by decide) (pc' := 16) rfl (fun h13 => ?_) (fun h13 => ?_)
  ·
    replace h13 : ¬ (n = 6) := fun hneg => h13 ((nI_eq (by omega) (by omega)).mpr hneg)
    refine xw_iload_n C 1 d_Ex_task_26 rfl rfl (pc' := 27) rfl ?_
    refine xw_iload_n C 2 d_Ex_task_27 rfl rfl (pc' := 28) rfl ?_
    refine xw_iload_n C 3 d_Ex_task_28 rfl rfl (pc' := 29) rfl ?_
    refine xw_iload C 4 d_Ex_task_29 rfl (pc' := 31) rfl ?_
    refine xw_callSi C (c_Ex_isTask l D ca ad M x y z o) ⟨zg_B C 4 k_336 k_24 k_338 q_Ex_isTask ⟨by decide, by decide⟩, C.2.2.2.2.1 _ k_337⟩ (fun _ _ _ _ h => h) (fun _ _ _ _ _ _ _ => trivial) rfl rfl (Nat.le_of_ble_eq_true rfl) d_Ex_task_31 ⟨by decide, by decide⟩ (pc' := 34) rfl (fun r4 M5 hp6 => ?_)
    obtain ⟨hme, hp6⟩ := hp6
    rw [hme]
    clear hme
    rcases hp6 with ⟨hti, rfl⟩ | ⟨hti, rfl⟩
    ·
      refine xw_if_ne C (tgt := 47) d_Ex_task_34 (by decide) (pc' := 37) rfl (fun h34 => ?_) (fun h34 => ?_)
      ·
        replace h34 : ¬ (1 = 0) := fun hneg => h34 ((xp_eq0 (by omega)).mpr hneg)
        refine xw_aload_n C 0 d_Ex_task_47 rfl rfl (pc' := 48) rfl ?_
        refine xw_get C u_Ex 0 zr_0 rfl 0 (by decide) k_182 rfl rfl d_Ex_task_48 (pc' := 51) rfl ?_
        refine xw_iload_n C 1 d_Ex_task_51 rfl rfl (pc' := 52) rfl ?_
        refine xw_iload_n C 2 d_Ex_task_52 rfl rfl (pc' := 53) rfl ?_
        refine xw_iload_n C 3 d_Ex_task_53 rfl rfl (pc' := 54) rfl ?_
        refine xw_iload C 4 d_Ex_task_54 rfl (pc' := 56) rfl ?_
        refine xw_callVi C (c_Tl_append l D ca ad M n x y z o (by omega) hz) ⟨zg_B C 4 k_355 k_25 k_358 q_Tl_append ⟨by decide, by decide⟩, C.2.2.2.2.1 _ k_356, C.2.2.2.2.1 _ k_357⟩ 1 zr_1 rfl rfl (fun _ _ _ _ h => h) (fun _ _ _ _ _ _ _ => trivial) rfl rfl (Nat.le_of_ble_eq_true rfl) d_Ex_task_56 ⟨by decide, by decide⟩ (pc' := 59) rfl (fun r7 M8 hp9 => ?_)
        obtain ⟨hM8, hre⟩ := hp9
        rw [hre]
        refine xw_iretX C hr hlk (F := zW ca ad) M8 rfl ?_ d_Ex_task_59 (by decide) (by decide)
        exact ⟨hmd0, by omega, hti, hM8, rfl⟩
      ·
        replace h34 : 1 = 0 := (xp_eq0 (by omega)).mp h34
        omega
    ·
      refine xw_if_ne C (tgt := 47) d_Ex_task_34 (by decide) (pc' := 37) rfl (fun h34 => ?_) (fun h34 => ?_)
      ·
        replace h34 : ¬ (0 = 0) := fun hneg => h34 ((xp_eq0 (by omega)).mpr hneg)
        omega
      ·
        replace h34 : 0 = 0 := (xp_eq0 (by omega)).mp h34
        refine xw_throwK C hl0 hlk hno (names := ["java/lang/RuntimeException", "java/lang/Exception"]) (by decide) (by decide) k_339 k_37 hKs (hKs.2.1 (78, "no such task can be") (by decide)) xa_IAE_g xa_IAE_n xa_IAE_o d_Ex_task_37 d_Ex_task_40 d_Ex_task_41 d_Ex_task_43 d_Ex_task_46 (by decide) (by decide) (by decide) (by decide) (F := zW ca ad) M rfl ?_ (by decide) (by decide)
        exact ⟨rfl, Or.inr (Or.inr ⟨hmd0, by omega, hti, rfl⟩)⟩
  ·
    replace h13 : n = 6 := (nI_eq (by omega) (by omega)).mp h13
    refine xw_throwK C hl0 hlk hno (names := ["java/lang/RuntimeException", "java/lang/Exception"]) (by decide) (by decide) k_240 k_35 hKs (hKs.2.1 (67, "there are 6 tasks") (by decide)) xa_ISE_g xa_ISE_n xa_ISE_o d_Ex_task_16 d_Ex_task_19 d_Ex_task_20 d_Ex_task_22 d_Ex_task_25 (by decide) (by decide) (by decide) (by decide) (F := zW ca ad) M rfl ?_ (by decide) (by decide)
    exact ⟨rfl, Or.inr (Or.inl ⟨hmd0, by omega, rfl⟩)⟩

set_option maxHeartbeats 4000000 in
set_option maxRecDepth 100000 in
/-- entry -/
theorem c_Ex_entry (l : Launch) (hl0 : l.stackTraces = false) (D : va_G) (ca : Nat → ClassId) (ad : Nat → Nat) (M : Nat → Nat → Int32) (sa : Nat → Nat) (md : Nat) (n : Nat) (x y : Int32) (hmd : M 0 0 = nI md) (hmb : md ≤ 1) (hn : n ≤ 6) (hz : M 1 0 = nI n) : xw_Xv l y_Ex_entry (.code y_Ex_entry b_Ex_entry 3 none :: zG) { frames := 7, cells := 3, slots := 18, locals := 120 } D zCl (zT ca) [.ref (ad 0), .int x, .int y] (zW ca ad M) (fun U => zKX sa (va_A (zW ca ad M) U.heap.size) U U.heap) 3 18 (zW ca ad) (fun M' => md = 0 ∧ ∃ j k, j < n ∧ k < 64 ∧ x = nI j ∧ y = nI k ∧ M' = zst M (14 + j) 4 (nI k)) (fun E M' => M' = M ∧ (md = 1 ∧ E = "java/lang/IllegalStateException" ∨ md = 0 ∧ E = "java/lang/IndexOutOfBoundsException" ∧ ¬ ((¬ x < 0 ∧ x < nI n) ∧ ¬ y < 0 ∧ y < nI 64))) := by
  intro sz
  refine xw_metX (cc := b_Ex_entry) (maxL := 3) (ret := none) (by decide) rfl (Nat.le_of_ble_eq_true rfl) (fun p e s m args below meth c hr hlk hno hsz hKs C => ?_)
  rw [hsz] at hKs
  have hKs : zKX sa (va_A (zW ca ad M) sz) s s.heap := hKs
  refine xw_lvE (lv' := [(0, .ref (ad 0)), (1, .int x), (2, .int y)]) rfl ?_
  refine xw_aload_n C 0 d_Ex_entry_0 rfl rfl (pc' := 1) rfl ?_
  refine xw_callXVv C (c_Ex_needEdit l hl0 D ca ad M sa md hmd hmb) ⟨zg_B C 0 k_236 k_24 k_239 q_Ex_needEdit ⟨by decide, by decide⟩, C.2.2.2.2.1 _ k_238, C.2.2.2.2.1 _ k_1⟩ 0 zr_0 rfl rfl (fun _ _ _ _ h => h.call) (fun _ _ _ hD hS hU hW => hKs.at C.2.2.2.2.2.2 hD hS hU hW) rfl rfl (Nat.le_of_ble_eq_true rfl) d_Ex_entry_1 ⟨by decide, by decide⟩ (pc' := 4) rfl (fun E u hx => xx_out C hlk hno (F := zW ca ad) u rfl (by exact ⟨hx.1, Or.inl ⟨hx.2.2, hx.2.1⟩⟩) (by decide) (by decide)) (fun M2 hp3 => ?_)
  obtain ⟨hme, hmd0⟩ := hp3
  rw [hme]
  clear hme
  refine xw_iload_n C 1 d_Ex_entry_4 rfl rfl (pc' := 5) rfl ?_
  refine xw_aload_n C 0 d_Ex_entry_5 rfl rfl (pc' := 6) rfl ?_
  refine xw_get C u_Ex 0 zr_0 rfl 0 (by decide) k_182 rfl rfl d_Ex_entry_6 (pc' := 9) rfl ?_
  refine xw_get C u_Tl 1 zr_1 rfl 1 (by decide) k_128 rfl rfl d_Ex_entry_9 (pc' := 12) rfl ?_
  refine xw_topi (y := nI n) hz ?_
  refine xw_callXSv C (c_Ex_needIndex l hl0 D ca ad M sa x (nI n)) ⟨zg_B C 2 k_308 k_24 k_310 q_Ex_needIndex ⟨by decide, by decide⟩, C.2.2.2.2.1 _ k_309⟩ (fun _ _ _ _ h => h.call) (fun _ _ _ hD hS hU hW => hKs.at C.2.2.2.2.2.2 hD hS hU hW) rfl rfl (Nat.le_of_ble_eq_true rfl) d_Ex_entry_12 ⟨by decide, by decide⟩ (pc' := 15) rfl (fun E u hx => xx_out C hlk hno (F := zW ca ad) u rfl (by exact ⟨hx.1, Or.inr ⟨hmd0, hx.2.1, fun h9 => hx.2.2 h9.1⟩⟩) (by decide) (by decide)) (fun M5 hp6 => ?_)
  obtain ⟨hme, hi0, hi1⟩ := hp6
  rw [hme]
  clear hme
  obtain ⟨j, hb_j, he_j⟩ := xp_ix (n := n) (by omega) hi0 hi1
  subst he_j
  refine xw_iload_n C 2 d_Ex_entry_15 rfl rfl (pc' := 16) rfl ?_
  refine xw_bipush C (v := nI 64) d_Ex_entry_16 (by decide) (pc' := 18) rfl ?_
  refine xw_callXSv C (c_Ex_needIndex l hl0 D ca ad M sa y (nI 64)) ⟨zg_B C 2 k_308 k_24 k_310 q_Ex_needIndex ⟨by decide, by decide⟩, C.2.2.2.2.1 _ k_309⟩ (fun _ _ _ _ h => h.call) (fun _ _ _ hD hS hU hW => hKs.at C.2.2.2.2.2.2 hD hS hU hW) rfl rfl (Nat.le_of_ble_eq_true rfl) d_Ex_entry_18 ⟨by decide, by decide⟩ (pc' := 21) rfl (fun E u hx => xx_out C hlk hno (F := zW ca ad) u rfl (by exact ⟨hx.1, Or.inr ⟨hmd0, hx.2.1, fun h9 => hx.2.2 h9.2⟩⟩) (by decide) (by decide)) (fun M8 hp9 => ?_)
  obtain ⟨hme, hi0, hi1⟩ := hp9
  rw [hme]
  clear hme
  obtain ⟨k, hb_k, he_k⟩ := xp_ix (n := 64) (by omega) hi0 hi1
  subst he_k
  refine xw_aload_n C 0 d_Ex_entry_21 rfl rfl (pc' := 22) rfl ?_
  refine xw_get C u_Ex 0 zr_0 rfl 0 (by decide) k_182 rfl rfl d_Ex_entry_22 (pc' := 25) rfl ?_
  refine xw_get C u_Tl 1 zr_1 rfl 0 (by decide) k_125 rfl rfl d_Ex_entry_25 (pc' := 28) rfl ?_
  refine xw_iload_n C 1 d_Ex_entry_28 rfl rfl (pc' := 29) rfl ?_
  refine xw_aald C 2 1 zr_2 rfl j rfl (by omega) (by decide) rfl d_Ex_entry_29 (pc' := 30) rfl ?_
  refine xw_iload_n C 2 d_Ex_entry_30 rfl rfl (pc' := 31) rfl ?_
  obtain ⟨M10, hM10⟩ : ∃ zq, zq = zst M (14 + j) 4 (nI k) := ⟨_, rfl⟩
  refine xw_put C u_Tk t_Tk t_Tk_ok n_Tk (14 + j) (zr_Tk (t := j) (by omega)) rfl 4 (by decide) k_102 rfl rfl (t_Tk_ok 4 (by decide)) rfl rfl (Nat.le_of_ble_eq_true rfl) (ws' := zW ca ad M10) (by rw [hM10]; exact zs_Tk_4 (t := j) (by omega) _) d_Ex_entry_31 (pc' := 34) rfl ?_
  refine xw_vretX C hr hlk (F := zW ca ad) M10 rfl ?_ d_Ex_entry_34 (by decide) (by decide)
  exact ⟨hmd0, j, k, hb_j, hb_k, rfl, rfl, hM10⟩

set_option maxHeartbeats 4000000 in
set_option maxRecDepth 100000 in
/-- clear -/
theorem c_Ex_clear (l : Launch) (hl0 : l.stackTraces = false) (D : va_G) (ca : Nat → ClassId) (ad : Nat → Nat) (M : Nat → Nat → Int32) (sa : Nat → Nat) (md : Nat) (hmd : M 0 0 = nI md) (hmb : md ≤ 1) : xw_Xv l y_Ex_clear (.code y_Ex_clear b_Ex_clear 1 none :: zG) { frames := 7, cells := 1, slots := 6, locals := 120 } D zCl (zT ca) [.ref (ad 0)] (zW ca ad M) (fun U => zKX sa (va_A (zW ca ad M) U.heap.size) U U.heap) 1 6 (zW ca ad) (fun M' => md = 0 ∧ M' = zst (zst M 1 0 (nI 0)) 3 0 (nI 0)) (fun E M' => M' = M ∧ (md = 1 ∧ E = "java/lang/IllegalStateException" ∨ False)) := by
  intro sz
  refine xw_metX (cc := b_Ex_clear) (maxL := 1) (ret := none) (by decide) rfl (Nat.le_of_ble_eq_true rfl) (fun p e s m args below meth c hr hlk hno hsz hKs C => ?_)
  rw [hsz] at hKs
  have hKs : zKX sa (va_A (zW ca ad M) sz) s s.heap := hKs
  refine xw_lvE (lv' := [(0, .ref (ad 0))]) rfl ?_
  refine xw_aload_n C 0 d_Ex_clear_0 rfl rfl (pc' := 1) rfl ?_
  refine xw_callXVv C (c_Ex_needEdit l hl0 D ca ad M sa md hmd hmb) ⟨zg_B C 0 k_236 k_24 k_239 q_Ex_needEdit ⟨by decide, by decide⟩, C.2.2.2.2.1 _ k_238, C.2.2.2.2.1 _ k_1⟩ 0 zr_0 rfl rfl (fun _ _ _ _ h => h.call) (fun _ _ _ hD hS hU hW => hKs.at C.2.2.2.2.2.2 hD hS hU hW) rfl rfl (Nat.le_of_ble_eq_true rfl) d_Ex_clear_1 ⟨by decide, by decide⟩ (pc' := 4) rfl (fun E u hx => xx_out C hlk hno (F := zW ca ad) u rfl (by exact ⟨hx.1, Or.inl ⟨hx.2.2, hx.2.1⟩⟩) (by decide) (by decide)) (fun M2 hp3 => ?_)
  obtain ⟨hme, hmd0⟩ := hp3
  rw [hme]
  clear hme
  refine xw_aload_n C 0 d_Ex_clear_4 rfl rfl (pc' := 5) rfl ?_
  refine xw_get C u_Ex 0 zr_0 rfl 0 (by decide) k_182 rfl rfl d_Ex_clear_5 (pc' := 8) rfl ?_
  refine xw_iconst C (v := nI 0) d_Ex_clear_8 (by decide) (pc' := 9) rfl ?_
  obtain ⟨M4, hM4⟩ : ∃ zq, zq = zst M 1 0 (nI 0) := ⟨_, rfl⟩
  refine xw_put C u_Tl t_Tl t_Tl_ok n_Tl 1 zr_1 rfl 1 (by decide) k_128 rfl rfl (t_Tl_ok 1 (by decide)) rfl rfl (Nat.le_of_ble_eq_true rfl) (ws' := zW ca ad M4) (by rw [hM4]; exact zs_1_0 _) d_Ex_clear_9 (pc' := 12) rfl ?_
  refine xw_aload_n C 0 d_Ex_clear_12 rfl rfl (pc' := 13) rfl ?_
  refine xw_get C u_Ex 0 zr_0 rfl 1 (by decide) k_183 rfl rfl d_Ex_clear_13 (pc' := 16) rfl ?_
  refine xw_iconst C (v := nI 0) d_Ex_clear_16 (by decide) (pc' := 17) rfl ?_
  obtain ⟨M5, hM5⟩ : ∃ zq, zq = zst M4 3 0 (nI 0) := ⟨_, rfl⟩
  refine xw_put C u_Tb t_Tb t_Tb_ok n_Tb 3 zr_3 rfl 3 (by decide) k_144 rfl rfl (t_Tb_ok 3 (by decide)) rfl rfl (Nat.le_of_ble_eq_true rfl) (ws' := zW ca ad M5) (by rw [hM5]; exact zs_3_0 _) d_Ex_clear_17 (pc' := 20) rfl ?_
  refine xw_vretX C hr hlk (F := zW ca ad) M5 rfl ?_ d_Ex_clear_20 (by decide) (by decide)
  subst hM5 hM4
  exact ⟨hmd0, rfl⟩

set_option maxHeartbeats 4000000 in
set_option maxRecDepth 100000 in
/-- round -/
theorem c_Ex_round (l : Launch) (D : va_G) (ca : Nat → ClassId) (ad : Nat → Nat) (M : Nat → Nat → Int32) (n : Nat) (per : Nat → Nat) (hn : n ≤ 6) (hz : M 1 0 = nI n) (hper : ∀ t, t < n → M (14 + t) 0 = nI (per t) ∧ 1 ≤ per t ∧ per t ≤ 48) : xw_Mi l y_Ex_round (.code y_Ex_round b_Ex_round 1 (some .int) :: zG) { frames := 2, cells := 0, slots := 0, locals := 43 } D zCl (zT ca) [.ref (ad 0)] (zW ca ad M) (fun _ => True) 0 0 (zW ca ad) (fun r M' => M' = M ∧ ((∃ h, sp_rd n per h ∧ r = nI h) ∨ sp_no n per ∧ r = -3)) := by
  intro sz
  refine xw_met (cc := b_Ex_round) (maxL := 1) (ret := (some .int)) (by decide) rfl (Nat.le_of_ble_eq_true rfl) (fun p e s m args below meth c hr hlk hnm hsz hKs C => ?_)
  refine xw_lvE (lv' := [(0, .ref (ad 0))]) rfl ?_
  refine xw_aload_n C 0 d_Ex_round_0 rfl rfl (pc' := 1) rfl ?_
  refine xw_get C u_Ex 0 zr_0 rfl 0 (by decide) k_182 rfl rfl d_Ex_round_1 (pc' := 4) rfl ?_
  refine xw_callVi C (c_Tl_commonRound l D ca ad M n per hn hz hper) ⟨zg_B C 0 k_211 k_25 k_214 q_Tl_commonRound ⟨by decide, by decide⟩, C.2.2.2.2.1 _ k_212, C.2.2.2.2.1 _ k_213⟩ 1 zr_1 rfl rfl (fun _ _ _ _ h => h) (fun _ _ _ _ _ _ _ => trivial) rfl rfl (Nat.le_of_ble_eq_true rfl) d_Ex_round_4 ⟨by decide, by decide⟩ (pc' := 7) rfl (fun r1 M2 hp3 => ?_)
  obtain ⟨hme, hre⟩ := hp3
  rw [hme]
  clear hme
  refine xw_iret C hr hlk (F := zW ca ad) M rfl ?_ d_Ex_round_7
  exact ⟨rfl, hre⟩

set_option maxHeartbeats 4000000 in
set_option maxRecDepth 100000 in
/-- slots -/
theorem c_Ex_slots (l : Launch) (D : va_G) (ca : Nat → ClassId) (ad : Nat → Nat) (M : Nat → Nat → Int32)   : xw_Mi l y_Ex_slots (.code y_Ex_slots b_Ex_slots 1 (some .int) :: zG) { frames := 0, cells := 0, slots := 0, locals := 0 } D zCl (zT ca) [.ref (ad 0)] (zW ca ad M) (fun _ => True) 0 0 (zW ca ad) (fun r M' => M' = M ∧ r = M 3 0) := by
  intro sz
  refine xw_met (cc := b_Ex_slots) (maxL := 1) (ret := (some .int)) (by decide) rfl (Nat.le_of_ble_eq_true rfl) (fun p e s m args below meth c hr hlk hnm hsz hKs C => ?_)
  refine xw_lvE (lv' := [(0, .ref (ad 0))]) rfl ?_
  refine xw_aload_n C 0 d_Ex_slots_0 rfl rfl (pc' := 1) rfl ?_
  refine xw_get C u_Ex 0 zr_0 rfl 1 (by decide) k_183 rfl rfl d_Ex_slots_1 (pc' := 4) rfl ?_
  refine xw_get C u_Tb 3 zr_3 rfl 3 (by decide) k_144 rfl rfl d_Ex_slots_4 (pc' := 7) rfl ?_
  refine xw_iret C hr hlk (F := zW ca ad) M rfl ?_ d_Ex_slots_7
  exact ⟨rfl, rfl⟩

set_option maxHeartbeats 4000000 in
set_option maxRecDepth 100000 in
/-- time -/
theorem c_Ex_time (l : Launch) (D : va_G) (ca : Nat → ClassId) (ad : Nat → Nat) (M : Nat → Nat → Int32)   : xw_Mi l y_Ex_time (.code y_Ex_time b_Ex_time 1 (some .int) :: zG) { frames := 0, cells := 0, slots := 0, locals := 0 } D zCl (zT ca) [.ref (ad 0)] (zW ca ad M) (fun _ => True) 0 0 (zW ca ad) (fun r M' => M' = M ∧ r = M 0 2) := by
  intro sz
  refine xw_met (cc := b_Ex_time) (maxL := 1) (ret := (some .int)) (by decide) rfl (Nat.le_of_ble_eq_true rfl) (fun p e s m args below meth c hr hlk hnm hsz hKs C => ?_)
  refine xw_lvE (lv' := [(0, .ref (ad 0))]) rfl ?_
  refine xw_aload_n C 0 d_Ex_time_0 rfl rfl (pc' := 1) rfl ?_
  refine xw_get C u_Ex 0 zr_0 rfl 7 (by decide) k_189 rfl rfl d_Ex_time_1 (pc' := 4) rfl ?_
  refine xw_iret C hr hlk (F := zW ca ad) M rfl ?_ d_Ex_time_4
  exact ⟨rfl, rfl⟩

theorem xp_min {x : Int32} {k bd : Nat} (hk : k ≤ 60) (h : bd ≤ k + 1 ∧ bd ≤ 60 ∧ (k + 1 ≤ bd ∨ 60 ≤ bd)) : x < nI bd ↔ x < nI (k + 1) ∧ x < nI 60 := by
  have q : bd = k + 1 ∨ bd = 60 := by omega
  rw [Int32.lt_iff_toInt_lt, Int32.lt_iff_toInt_lt, Int32.lt_iff_toInt_lt, nI_toInt (by omega), nI_toInt (by omega), nI_toInt (by omega)]
  omega

set_option maxHeartbeats 4000000 in
set_option maxRecDepth 100000 in
/-- slot -/
theorem c_Ex_slot (l : Launch) (hl0 : l.stackTraces = false) (D : va_G) (ca : Nat → ClassId) (ad : Nat → Nat) (M : Nat → Nat → Int32) (sa : Nat → Nat) (md : Nat) (n k : Nat) (x a b z : Int32) (hmd : M 0 0 = nI md) (hmb : md ≤ 1) (hn : n ≤ 6) (hz : M 1 0 = nI n) (hk : k ≤ 60) (hz3 : M 3 0 = nI k) : xw_Xv l y_Ex_slot (.code y_Ex_slot b_Ex_slot 5 none :: zG) { frames := 7, cells := 4, slots := 24, locals := 120 } D zCl (zT ca) [.ref (ad 0), .int x, .int a, .int b, .int z] (zW ca ad M) (fun U => zKX sa (va_A (zW ca ad M) U.heap.size) U U.heap) 4 24 (zW ca ad) (fun M' => md = 0 ∧ ∃ i q1 q2 t, i ≤ k ∧ i < 60 ∧ q1 < 240 ∧ 1 ≤ q2 ∧ q2 ≤ 240 ∧ t < n ∧ x = nI i ∧ a = nI q1 ∧ b = nI q2 ∧ z = nI t ∧ M' = zPut M i k a b z) (fun E M' => M' = M ∧ (md = 1 ∧ E = "java/lang/IllegalStateException" ∨ md = 0 ∧ (E = "java/lang/IndexOutOfBoundsException" ∧ ¬ ((¬ x < 0 ∧ (x < nI (k + 1) ∧ x < nI 60)) ∧ ¬ z < 0 ∧ z < nI n) ∨ E = "java/lang/IllegalArgumentException" ∧ ((¬ x < 0 ∧ (x < nI (k + 1) ∧ x < nI 60)) ∧ ¬ z < 0 ∧ z < nI n) ∧ ¬ (¬ a < 0 ∧ a < nI 240 ∧ ¬ b < nI 1 ∧ ¬ nI 240 < b)))) := by
  intro sz
  refine xw_metX (cc := b_Ex_slot) (maxL := 5) (ret := none) (by decide) rfl (Nat.le_of_ble_eq_true rfl) (fun p e s m args below meth c hr hlk hno hsz hKs C => ?_)
  rw [hsz] at hKs
  have hKs : zKX sa (va_A (zW ca ad M) sz) s s.heap := hKs
  refine xw_lvE (lv' := [(0, .ref (ad 0)), (1, .int x), (2, .int a), (3, .int b), (4, .int z)]) rfl ?_
  refine xw_aload_n C 0 d_Ex_slot_0 rfl rfl (pc' := 1) rfl ?_
  refine xw_callXVv C (c_Ex_needEdit l hl0 D ca ad M sa md hmd hmb) ⟨zg_B C 0 k_236 k_24 k_239 q_Ex_needEdit ⟨by decide, by decide⟩, C.2.2.2.2.1 _ k_238, C.2.2.2.2.1 _ k_1⟩ 0 zr_0 rfl rfl (fun _ _ _ _ h => h.call) (fun _ _ _ hD hS hU hW => hKs.at C.2.2.2.2.2.2 hD hS hU hW) rfl rfl (Nat.le_of_ble_eq_true rfl) d_Ex_slot_1 ⟨by decide, by decide⟩ (pc' := 4) rfl (fun E u hx => xx_out C hlk hno (F := zW ca ad) u rfl (by exact ⟨hx.1, Or.inl ⟨hx.2.2, hx.2.1⟩⟩) (by decide) (by decide)) (fun M2 hp3 => ?_)
  obtain ⟨hme, hmd0⟩ := hp3
  rw [hme]
  clear hme
  refine xw_iload_n C 1 d_Ex_slot_4 rfl rfl (pc' := 5) rfl ?_
  refine xw_aload_n C 0 d_Ex_slot_5 rfl rfl (pc' := 6) rfl ?_
  refine xw_get C u_Ex 0 zr_0 rfl 1 (by decide) k_183 rfl rfl d_Ex_slot_6 (pc' := 9) rfl ?_
  refine xw_get C u_Tb 3 zr_3 rfl 3 (by decide) k_144 rfl rfl d_Ex_slot_9 (pc' := 12) rfl ?_
  refine xw_topi (y := nI k) hz3 ?_
  refine xw_iconst C (v := nI 1) d_Ex_slot_12 (by decide) (pc' := 13) rfl ?_
  refine xw_iadd C d_Ex_slot_13 (pc' := 14) rfl ?_
  refine xw_topi (y := nI (k + 1)) (nI_add _ _) ?_
  refine xw_bipush C (v := nI 60) d_Ex_slot_14 (by decide) (pc' := 16) rfl ?_
  refine xw_callSi C (c_Ma_min l D ca ad M (nI (k + 1)) (nI 60)) ⟨zg_B C 2 k_434 k_39 k_436 q_Ma_min ⟨by decide, by decide⟩, C.2.2.2.2.1 _ k_435⟩ (fun _ _ _ _ h => h) (fun _ _ _ _ _ _ _ => trivial) rfl rfl (Nat.le_of_ble_eq_true rfl) d_Ex_slot_16 ⟨by decide, by decide⟩ (pc' := 19) rfl (fun r4 M5 hp6 => ?_)
  obtain ⟨hme, hre⟩ := hp6
  rw [hme, hre]
  clear hme hre
  obtain ⟨bd, hbd⟩ : ∃ zq, zq = if 60 < k + 1 then 60 else k + 1 := ⟨_, rfl⟩
  have hbd2 : bd ≤ k + 1 ∧ bd ≤ 60 ∧ (k + 1 ≤ bd ∨ 60 ≤ bd) := by rw [hbd]; split <;> omega
  refine xw_topi (y := nI bd) (by rw [hbd]; exact xp_minI hk) ?_
  refine xw_callXSv C (c_Ex_needIndex l hl0 D ca ad M sa x (nI bd)) ⟨zg_B C 2 k_308 k_24 k_310 q_Ex_needIndex ⟨by decide, by decide⟩, C.2.2.2.2.1 _ k_309⟩ (fun _ _ _ _ h => h.call) (fun _ _ _ hD hS hU hW => hKs.at C.2.2.2.2.2.2 hD hS hU hW) rfl rfl (Nat.le_of_ble_eq_true rfl) d_Ex_slot_19 ⟨by decide, by decide⟩ (pc' := 22) rfl (fun E u hx => xx_out C hlk hno (F := zW ca ad) u rfl (by exact ⟨hx.1, Or.inr ⟨hmd0, Or.inl ⟨hx.2.1, fun h9 => hx.2.2 ⟨h9.1.1, (xp_min hk hbd2).mpr h9.1.2⟩⟩⟩⟩) (by decide) (by decide)) (fun M8 hp9 => ?_)
  obtain ⟨hme, hi0, hi1⟩ := hp9
  rw [hme]
  clear hme
  obtain ⟨i, hb_i, he_i⟩ := xp_ix (n := bd) (by omega) hi0 hi1
  subst he_i
  refine xw_iload C 4 d_Ex_slot_22 rfl (pc' := 24) rfl ?_
  refine xw_aload_n C 0 d_Ex_slot_24 rfl rfl (pc' := 25) rfl ?_
  refine xw_get C u_Ex 0 zr_0 rfl 0 (by decide) k_182 rfl rfl d_Ex_slot_25 (pc' := 28) rfl ?_
  refine xw_get C u_Tl 1 zr_1 rfl 1 (by decide) k_128 rfl rfl d_Ex_slot_28 (pc' := 31) rfl ?_
  refine xw_topi (y := nI n) hz ?_
  refine xw_callXSv C (c_Ex_needIndex l hl0 D ca ad M sa z (nI n)) ⟨zg_B C 2 k_308 k_24 k_310 q_Ex_needIndex ⟨by decide, by decide⟩, C.2.2.2.2.1 _ k_309⟩ (fun _ _ _ _ h => h.call) (fun _ _ _ hD hS hU hW => hKs.at C.2.2.2.2.2.2 hD hS hU hW) rfl rfl (Nat.le_of_ble_eq_true rfl) d_Ex_slot_31 ⟨by decide, by decide⟩ (pc' := 34) rfl (fun E u hx => xx_out C hlk hno (F := zW ca ad) u rfl (by exact ⟨hx.1, Or.inr ⟨hmd0, Or.inl ⟨hx.2.1, fun h9 => hx.2.2 h9.2⟩⟩⟩) (by decide) (by decide)) (fun M11 hp12 => ?_)
  obtain ⟨hme, hi0, hi1⟩ := hp12
  rw [hme]
  clear hme
  obtain ⟨t, hb_t, he_t⟩ := xp_ix (n := n) (by omega) hi0 hi1
  subst he_t
  refine xw_iload_n C 2 d_Ex_slot_34 rfl rfl (pc' := 35) rfl ?_
  refine xw_if_lt C (tgt := 57) d_Ex_slot_35 (by decide) (pc' := 38) rfl (fun h35 => ?_) (fun h35 => ?_)
  ·
    refine xw_throwK C hl0 hlk hno (names := ["java/lang/RuntimeException", "java/lang/Exception"]) (by decide) (by decide) k_339 k_37 hKs (hKs.2.1 (113, "no such slot can be") (by decide)) xa_IAE_g xa_IAE_n xa_IAE_o d_Ex_slot_57 d_Ex_slot_60 d_Ex_slot_61 d_Ex_slot_63 d_Ex_slot_66 (by decide) (by decide) (by decide) (by decide) (F := zW ca ad) M rfl ?_ (by decide) (by decide)
    refine ⟨rfl, Or.inr ⟨hmd0, Or.inr ⟨rfl, ⟨⟨nI_pos (by omega), (nI_ltI (by omega) (by omega)).mpr (by omega), (nI_ltI (by omega) (by omega)).mpr (by omega)⟩, nI_pos (by omega), (nI_ltI (by omega) (by omega)).mpr (by omega)⟩, fun h9 => ?_⟩⟩⟩
    first | exact h9.1 h35 | exact (Int32.not_le.mpr h9.2.1) h42 | exact h9.2.2.1 h47 | exact h9.2.2.2 (Int32.not_le.mp h54)
  ·
    refine xw_iload_n C 2 d_Ex_slot_38 rfl rfl (pc' := 39) rfl ?_
    refine xw_sipush C (v := nI 240) d_Ex_slot_39 (by decide) (pc' := 42) rfl ?_
    refine xw_icmp_ge C (tgt := 57) d_Ex_slot_42 (by decide) (pc' := 45) rfl (fun h42 => ?_) (fun h42 => ?_)
    ·
      refine xw_throwK C hl0 hlk hno (names := ["java/lang/RuntimeException", "java/lang/Exception"]) (by decide) (by decide) k_339 k_37 hKs (hKs.2.1 (113, "no such slot can be") (by decide)) xa_IAE_g xa_IAE_n xa_IAE_o d_Ex_slot_57 d_Ex_slot_60 d_Ex_slot_61 d_Ex_slot_63 d_Ex_slot_66 (by decide) (by decide) (by decide) (by decide) (F := zW ca ad) M rfl ?_ (by decide) (by decide)
      refine ⟨rfl, Or.inr ⟨hmd0, Or.inr ⟨rfl, ⟨⟨nI_pos (by omega), (nI_ltI (by omega) (by omega)).mpr (by omega), (nI_ltI (by omega) (by omega)).mpr (by omega)⟩, nI_pos (by omega), (nI_ltI (by omega) (by omega)).mpr (by omega)⟩, fun h9 => ?_⟩⟩⟩
      first | exact h9.1 h35 | exact (Int32.not_le.mpr h9.2.1) h42 | exact h9.2.2.1 h47 | exact h9.2.2.2 (Int32.not_le.mp h54)
    ·
      refine xw_iload_n C 3 d_Ex_slot_45 rfl rfl (pc' := 46) rfl ?_
      refine xw_iconst C (v := nI 1) d_Ex_slot_46 (by decide) (pc' := 47) rfl ?_
      refine xw_icmp_lt C (tgt := 57) d_Ex_slot_47 (by decide) (pc' := 50) rfl (fun h47 => ?_) (fun h47 => ?_)
      ·
        refine xw_throwK C hl0 hlk hno (names := ["java/lang/RuntimeException", "java/lang/Exception"]) (by decide) (by decide) k_339 k_37 hKs (hKs.2.1 (113, "no such slot can be") (by decide)) xa_IAE_g xa_IAE_n xa_IAE_o d_Ex_slot_57 d_Ex_slot_60 d_Ex_slot_61 d_Ex_slot_63 d_Ex_slot_66 (by decide) (by decide) (by decide) (by decide) (F := zW ca ad) M rfl ?_ (by decide) (by decide)
        refine ⟨rfl, Or.inr ⟨hmd0, Or.inr ⟨rfl, ⟨⟨nI_pos (by omega), (nI_ltI (by omega) (by omega)).mpr (by omega), (nI_ltI (by omega) (by omega)).mpr (by omega)⟩, nI_pos (by omega), (nI_ltI (by omega) (by omega)).mpr (by omega)⟩, fun h9 => ?_⟩⟩⟩
        first | exact h9.1 h35 | exact (Int32.not_le.mpr h9.2.1) h42 | exact h9.2.2.1 h47 | exact h9.2.2.2 (Int32.not_le.mp h54)
      ·
        refine xw_iload_n C 3 d_Ex_slot_50 rfl rfl (pc' := 51) rfl ?_
        refine xw_sipush C (v := nI 240) d_Ex_slot_51 (by decide) (pc' := 54) rfl ?_
        refine xw_icmp_le C (tgt := 67) d_Ex_slot_54 (by decide) (pc' := 57) rfl (fun h54 => ?_) (fun h54 => ?_)
        ·
          obtain ⟨q1, hq1, he1⟩ := xp_ix (n := 240) (by omega) h35 (Int32.not_le.mp h42)
          obtain ⟨q2, hq2, hq3, he2⟩ := xp_rg (a := 1) (b := 240) (by omega) (by omega) h47 (Int32.not_lt.mpr h54)
          refine xw_aload_n C 0 d_Ex_slot_67 rfl rfl (pc' := 68) rfl ?_
          refine xw_get C u_Ex 0 zr_0 rfl 1 (by decide) k_183 rfl rfl d_Ex_slot_68 (pc' := 71) rfl ?_
          refine xw_iload_n C 1 d_Ex_slot_71 rfl rfl (pc' := 72) rfl ?_
          refine xw_iload_n C 2 d_Ex_slot_72 rfl rfl (pc' := 73) rfl ?_
          refine xw_iload_n C 3 d_Ex_slot_73 rfl rfl (pc' := 74) rfl ?_
          refine xw_iload C 4 d_Ex_slot_74 rfl (pc' := 76) rfl ?_
          refine xw_callVv C (c_Tb_put l D ca ad M i k a b (nI t) (by omega) (by omega) hz3) ⟨zg_B C 4 k_438 k_28 k_426 q_Tb_put ⟨by decide, by decide⟩, C.2.2.2.2.1 _ k_424, C.2.2.2.2.1 _ k_425⟩ 3 zr_3 rfl rfl (fun _ _ _ _ h => h) (fun _ _ _ _ _ _ _ => trivial) rfl rfl (Nat.le_of_ble_eq_true rfl) d_Ex_slot_76 ⟨by decide, by decide⟩ (pc' := 79) rfl (fun M14 hp15 => ?_)
          have hM14 := hp15
          refine xw_vretX C hr hlk (F := zW ca ad) M14 rfl ?_ d_Ex_slot_79 (by decide) (by decide)
          exact ⟨hmd0, i, q1, q2, t, by omega, by omega, hq1, hq2, hq3, hb_t, rfl, he1, he2, rfl, hM14⟩
        ·
          refine xw_throwK C hl0 hlk hno (names := ["java/lang/RuntimeException", "java/lang/Exception"]) (by decide) (by decide) k_339 k_37 hKs (hKs.2.1 (113, "no such slot can be") (by decide)) xa_IAE_g xa_IAE_n xa_IAE_o d_Ex_slot_57 d_Ex_slot_60 d_Ex_slot_61 d_Ex_slot_63 d_Ex_slot_66 (by decide) (by decide) (by decide) (by decide) (F := zW ca ad) M rfl ?_ (by decide) (by decide)
          refine ⟨rfl, Or.inr ⟨hmd0, Or.inr ⟨rfl, ⟨⟨nI_pos (by omega), (nI_ltI (by omega) (by omega)).mpr (by omega), (nI_ltI (by omega) (by omega)).mpr (by omega)⟩, nI_pos (by omega), (nI_ltI (by omega) (by omega)).mpr (by omega)⟩, fun h9 => ?_⟩⟩⟩
          first | exact h9.1 h35 | exact (Int32.not_le.mpr h9.2.1) h42 | exact h9.2.2.1 h47 | exact h9.2.2.2 (Int32.not_le.mp h54)

set_option maxHeartbeats 4000000 in
set_option maxRecDepth 100000 in
/-- drop -/
theorem c_Ex_drop (l : Launch) (hl0 : l.stackTraces = false) (D : va_G) (ca : Nat → ClassId) (ad : Nat → Nat) (M : Nat → Nat → Int32) (sa : Nat → Nat) (md : Nat) (k : Nat) (hmd : M 0 0 = nI md) (hmb : md ≤ 1) (hk : k ≤ 60) (hz3 : M 3 0 = nI k) : xw_Xv l y_Ex_drop (.code y_Ex_drop b_Ex_drop 1 none :: zG) { frames := 7, cells := 2, slots := 12, locals := 120 } D zCl (zT ca) [.ref (ad 0)] (zW ca ad M) (fun U => zKX sa (va_A (zW ca ad M) U.heap.size) U U.heap) 2 12 (zW ca ad) (fun M' => md = 0 ∧ 0 < k ∧ M' = zst M 3 0 (nI (k - 1))) (fun E M' => M' = M ∧ (md = 1 ∧ E = "java/lang/IllegalStateException" ∨ md = 0 ∧ k = 0 ∧ E = "java/lang/IllegalStateException")) := by
  intro sz
  refine xw_metX (cc := b_Ex_drop) (maxL := 1) (ret := none) (by decide) rfl (Nat.le_of_ble_eq_true rfl) (fun p e s m args below meth c hr hlk hno hsz hKs C => ?_)
  rw [hsz] at hKs
  have hKs : zKX sa (va_A (zW ca ad M) sz) s s.heap := hKs
  refine xw_lvE (lv' := [(0, .ref (ad 0))]) rfl ?_
  refine xw_aload_n C 0 d_Ex_drop_0 rfl rfl (pc' := 1) rfl ?_
  refine xw_callXVv C (c_Ex_needEdit l hl0 D ca ad M sa md hmd hmb) ⟨zg_B C 0 k_236 k_24 k_239 q_Ex_needEdit ⟨by decide, by decide⟩, C.2.2.2.2.1 _ k_238, C.2.2.2.2.1 _ k_1⟩ 0 zr_0 rfl rfl (fun _ _ _ _ h => h.call) (fun _ _ _ hD hS hU hW => hKs.at C.2.2.2.2.2.2 hD hS hU hW) rfl rfl (Nat.le_of_ble_eq_true rfl) d_Ex_drop_1 ⟨by decide, by decide⟩ (pc' := 4) rfl (fun E u hx => xx_out C hlk hno (F := zW ca ad) u rfl (by exact ⟨hx.1, Or.inl ⟨hx.2.2, hx.2.1⟩⟩) (by decide) (by decide)) (fun M2 hp3 => ?_)
  obtain ⟨hme, hmd0⟩ := hp3
  rw [hme]
  clear hme
  refine xw_aload_n C 0 d_Ex_drop_4 rfl rfl (pc' := 5) rfl ?_
  refine xw_get C u_Ex 0 zr_0 rfl 1 (by decide) k_183 rfl rfl d_Ex_drop_5 (pc' := 8) rfl ?_
  refine xw_get C u_Tb 3 zr_3 rfl 3 (by decide) k_144 rfl rfl d_Ex_drop_8 (pc' := 11) rfl ?_
  refine xw_topi (y := nI k) hz3 ?_
  refine xw_if_ne C (tgt := 24) d_Ex_drop_11 (by decide) (pc' := 14) rfl (fun h11 => ?_) (fun h11 => ?_)
  ·
    replace h11 : ¬ (k = 0) := fun hneg => h11 ((xp_eq0 (by omega)).mpr hneg)
    refine xw_aload_n C 0 d_Ex_drop_24 rfl rfl (pc' := 25) rfl ?_
    refine xw_get C u_Ex 0 zr_0 rfl 1 (by decide) k_183 rfl rfl d_Ex_drop_25 (pc' := 28) rfl ?_
    refine xw_dup C d_Ex_drop_28 rfl (pc' := 29) rfl ?_
    refine xw_get C u_Tb 3 zr_3 rfl 3 (by decide) k_144 rfl rfl d_Ex_drop_29 (pc' := 32) rfl ?_
    refine xw_topi (y := nI k) hz3 ?_
    refine xw_iconst C (v := nI 1) d_Ex_drop_32 (by decide) (pc' := 33) rfl ?_
    refine xw_isub C d_Ex_drop_33 (pc' := 34) rfl ?_
    refine xw_topi (y := nI (k - 1)) (pk_sub (by omega)) ?_
    obtain ⟨M4, hM4⟩ : ∃ zq, zq = zst M 3 0 (nI (k - 1)) := ⟨_, rfl⟩
    refine xw_put C u_Tb t_Tb t_Tb_ok n_Tb 3 zr_3 rfl 3 (by decide) k_144 rfl rfl (t_Tb_ok 3 (by decide)) rfl rfl (Nat.le_of_ble_eq_true rfl) (ws' := zW ca ad M4) (by rw [hM4]; exact zs_3_0 _) d_Ex_drop_34 (pc' := 37) rfl ?_
    refine xw_vretX C hr hlk (F := zW ca ad) M4 rfl ?_ d_Ex_drop_37 (by decide) (by decide)
    exact ⟨hmd0, by omega, hM4⟩
  ·
    replace h11 : k = 0 := (xp_eq0 (by omega)).mp h11
    refine xw_throwK C hl0 hlk hno (names := ["java/lang/RuntimeException", "java/lang/Exception"]) (by decide) (by decide) k_240 k_35 hKs (hKs.2.1 (119, "there is no slot") (by decide)) xa_ISE_g xa_ISE_n xa_ISE_o d_Ex_drop_14 d_Ex_drop_17 d_Ex_drop_18 d_Ex_drop_20 d_Ex_drop_23 (by decide) (by decide) (by decide) (by decide) (F := zW ca ad) M rfl ?_ (by decide) (by decide)
    exact ⟨rfl, Or.inr ⟨hmd0, by omega, rfl⟩⟩

set_option maxHeartbeats 4000000 in
set_option maxRecDepth 100000 in
/-- slotOf -/
theorem c_Ex_slotOf (l : Launch) (hl0 : l.stackTraces = false) (D : va_G) (ca : Nat → ClassId) (ad : Nat → Nat) (M : Nat → Nat → Int32) (sa : Nat → Nat) (k : Nat) (x y : Int32) (hk : k ≤ 60) (hz3 : M 3 0 = nI k) : xw_Xi l y_Ex_slotOf (.code y_Ex_slotOf b_Ex_slotOf 3 (some .int) :: zG) { frames := 7, cells := 2, slots := 12, locals := 120 } D zCl (zT ca) [.ref (ad 0), .int x, .int y] (zW ca ad M) (fun U => zKX sa (va_A (zW ca ad M) U.heap.size) U U.heap) 2 12 (zW ca ad) (fun r M' => M' = M ∧ ∃ i w, i < k ∧ w < 3 ∧ x = nI i ∧ y = nI w ∧ r = if w = 0 then M 4 i else if w = 1 then M 5 i else M 6 i) (fun E M' => M' = M ∧ E = "java/lang/IndexOutOfBoundsException" ∧ ¬ ((¬ x < 0 ∧ x < nI k) ∧ ¬ y < 0 ∧ y < nI 3)) := by
  intro sz
  refine xw_metX (cc := b_Ex_slotOf) (maxL := 3) (ret := (some .int)) (by decide) rfl (Nat.le_of_ble_eq_true rfl) (fun p e s m args below meth c hr hlk hno hsz hKs C => ?_)
  rw [hsz] at hKs
  have hKs : zKX sa (va_A (zW ca ad M) sz) s s.heap := hKs
  refine xw_lvE (lv' := [(0, .ref (ad 0)), (1, .int x), (2, .int y)]) rfl ?_
  refine xw_iload_n C 1 d_Ex_slotOf_0 rfl rfl (pc' := 1) rfl ?_
  refine xw_aload_n C 0 d_Ex_slotOf_1 rfl rfl (pc' := 2) rfl ?_
  refine xw_get C u_Ex 0 zr_0 rfl 1 (by decide) k_183 rfl rfl d_Ex_slotOf_2 (pc' := 5) rfl ?_
  refine xw_get C u_Tb 3 zr_3 rfl 3 (by decide) k_144 rfl rfl d_Ex_slotOf_5 (pc' := 8) rfl ?_
  refine xw_topi (y := nI k) hz3 ?_
  refine xw_callXSv C (c_Ex_needIndex l hl0 D ca ad M sa x (nI k)) ⟨zg_B C 2 k_308 k_24 k_310 q_Ex_needIndex ⟨by decide, by decide⟩, C.2.2.2.2.1 _ k_309⟩ (fun _ _ _ _ h => h.call) (fun _ _ _ hD hS hU hW => hKs.at C.2.2.2.2.2.2 hD hS hU hW) rfl rfl (Nat.le_of_ble_eq_true rfl) d_Ex_slotOf_8 ⟨by decide, by decide⟩ (pc' := 11) rfl (fun E u hx => xx_out C hlk hno (F := zW ca ad) u rfl (by exact ⟨hx.1, hx.2.1, fun h9 => hx.2.2 h9.1⟩) (by decide) (by decide)) (fun M2 hp3 => ?_)
  obtain ⟨hme, hi0, hi1⟩ := hp3
  rw [hme]
  clear hme
  obtain ⟨i, hb_i, he_i⟩ := xp_ix (n := k) (by omega) hi0 hi1
  subst he_i
  refine xw_iload_n C 2 d_Ex_slotOf_11 rfl rfl (pc' := 12) rfl ?_
  refine xw_iconst C (v := nI 3) d_Ex_slotOf_12 (by decide) (pc' := 13) rfl ?_
  refine xw_callXSv C (c_Ex_needIndex l hl0 D ca ad M sa y (nI 3)) ⟨zg_B C 2 k_308 k_24 k_310 q_Ex_needIndex ⟨by decide, by decide⟩, C.2.2.2.2.1 _ k_309⟩ (fun _ _ _ _ h => h.call) (fun _ _ _ hD hS hU hW => hKs.at C.2.2.2.2.2.2 hD hS hU hW) rfl rfl (Nat.le_of_ble_eq_true rfl) d_Ex_slotOf_13 ⟨by decide, by decide⟩ (pc' := 16) rfl (fun E u hx => xx_out C hlk hno (F := zW ca ad) u rfl (by exact ⟨hx.1, hx.2.1, fun h9 => hx.2.2 h9.2⟩) (by decide) (by decide)) (fun M5 hp6 => ?_)
  obtain ⟨hme, hi0, hi1⟩ := hp6
  rw [hme]
  clear hme
  obtain ⟨w, hb_w, he_w⟩ := xp_ix (n := 3) (by omega) hi0 hi1
  subst he_w
  refine xw_aload_n C 0 d_Ex_slotOf_16 rfl rfl (pc' := 17) rfl ?_
  refine xw_get C u_Ex 0 zr_0 rfl 1 (by decide) k_183 rfl rfl d_Ex_slotOf_17 (pc' := 20) rfl ?_
  refine xw_iload_n C 1 d_Ex_slotOf_20 rfl rfl (pc' := 21) rfl ?_
  refine xw_iload_n C 2 d_Ex_slotOf_21 rfl rfl (pc' := 22) rfl ?_
  refine xw_callVi C (c_Tb_part l D ca ad M i w (by omega) (by omega)) ⟨zg_B C 2 k_454 k_28 k_457 q_Tb_part ⟨by decide, by decide⟩, C.2.2.2.2.1 _ k_455, C.2.2.2.2.1 _ k_456⟩ 3 zr_3 rfl rfl (fun _ _ _ _ h => h) (fun _ _ _ _ _ _ _ => trivial) rfl rfl (Nat.le_of_ble_eq_true rfl) d_Ex_slotOf_22 ⟨by decide, by decide⟩ (pc' := 25) rfl (fun r7 M8 hp9 => ?_)
  obtain ⟨hme, hre⟩ := hp9
  rw [hme, hre]
  clear hme hre
  refine xw_iretX C hr hlk (F := zW ca ad) M rfl ?_ d_Ex_slotOf_25 (by decide) (by decide)
  exact ⟨rfl, i, w, hb_i, hb_w, rfl, rfl, rfl⟩

set_option maxHeartbeats 4000000 in
set_option maxRecDepth 100000 in
/-- stop -/
theorem c_Ex_stop (l : Launch) (hl0 : l.stackTraces = false) (D : va_G) (ca : Nat → ClassId) (ad : Nat → Nat) (M : Nat → Nat → Int32) (sa : Nat → Nat) (md : Nat) (hmd : M 0 0 = nI md) (hmb : md ≤ 1) : xw_Xv l y_Ex_stop (.code y_Ex_stop b_Ex_stop 1 none :: zG) { frames := 7, cells := 1, slots := 6, locals := 120 } D zCl (zT ca) [.ref (ad 0)] (zW ca ad M) (fun U => zKX sa (va_A (zW ca ad M) U.heap.size) U U.heap) 1 6 (zW ca ad) (fun M' => md = 1 ∧ M' = zst M 0 0 (nI 0)) (fun E M' => M' = M ∧ (md = 0 ∧ E = "java/lang/IllegalStateException" ∨ False)) := by
  intro sz
  refine xw_metX (cc := b_Ex_stop) (maxL := 1) (ret := none) (by decide) rfl (Nat.le_of_ble_eq_true rfl) (fun p e s m args below meth c hr hlk hno hsz hKs C => ?_)
  rw [hsz] at hKs
  have hKs : zKX sa (va_A (zW ca ad M) sz) s s.heap := hKs
  refine xw_lvE (lv' := [(0, .ref (ad 0))]) rfl ?_
  refine xw_aload_n C 0 d_Ex_stop_0 rfl rfl (pc' := 1) rfl ?_
  refine xw_callXVv C (c_Ex_needRun l hl0 D ca ad M sa md hmd hmb) ⟨zg_B C 0 k_494 k_24 k_497 q_Ex_needRun ⟨by decide, by decide⟩, C.2.2.2.2.1 _ k_496, C.2.2.2.2.1 _ k_7⟩ 0 zr_0 rfl rfl (fun _ _ _ _ h => h.call) (fun _ _ _ hD hS hU hW => hKs.at C.2.2.2.2.2.2 hD hS hU hW) rfl rfl (Nat.le_of_ble_eq_true rfl) d_Ex_stop_1 ⟨by decide, by decide⟩ (pc' := 4) rfl (fun E u hx => xx_out C hlk hno (F := zW ca ad) u rfl (by exact ⟨hx.1, Or.inl ⟨hx.2.2, hx.2.1⟩⟩) (by decide) (by decide)) (fun M2 hp3 => ?_)
  obtain ⟨hme, hmd0⟩ := hp3
  rw [hme]
  clear hme
  refine xw_aload_n C 0 d_Ex_stop_4 rfl rfl (pc' := 5) rfl ?_
  refine xw_iconst C (v := nI 0) d_Ex_stop_5 (by decide) (pc' := 6) rfl ?_
  obtain ⟨M4, hM4⟩ : ∃ zq, zq = zst M 0 0 (nI 0) := ⟨_, rfl⟩
  refine xw_put C u_Ex t_Ex t_Ex_ok n_Ex 0 zr_0 rfl 5 (by decide) k_187 rfl rfl (t_Ex_ok 5 (by decide)) xp_n0 rfl (Nat.le_of_ble_eq_true rfl) (ws' := zW ca ad M4) (by rw [hM4]; exact zs_0_0 _) d_Ex_stop_6 (pc' := 9) rfl ?_
  refine xw_vretX C hr hlk (F := zW ca ad) M4 rfl ?_ d_Ex_stop_9 (by decide) (by decide)
  exact ⟨hmd0, hM4⟩

set_option maxHeartbeats 4000000 in
set_option maxRecDepth 100000 in
/-- count -/
theorem c_Ex_count (l : Launch) (hl0 : l.stackTraces = false) (D : va_G) (ca : Nat → ClassId) (ad : Nat → Nat) (M : Nat → Nat → Int32) (sa : Nat → Nat) (n : Nat) (x y : Int32) (hn : n ≤ 6) (hz : M 1 0 = nI n) : xw_Xi l y_Ex_count (.code y_Ex_count b_Ex_count 3 (some .int) :: zG) { frames := 7, cells := 2, slots := 12, locals := 120 } D zCl (zT ca) [.ref (ad 0), .int x, .int y] (zW ca ad M) (fun U => zKX sa (va_A (zW ca ad M) U.heap.size) U U.heap) 2 12 (zW ca ad) (fun r M' => M' = M ∧ ∃ i w, i < n ∧ w < 4 ∧ x = nI i ∧ y = nI w ∧ r = M (32 + i) w) (fun E M' => M' = M ∧ E = "java/lang/IndexOutOfBoundsException" ∧ ¬ ((¬ x < 0 ∧ x < nI n) ∧ ¬ y < 0 ∧ y < nI 4)) := by
  intro sz
  refine xw_metX (cc := b_Ex_count) (maxL := 3) (ret := (some .int)) (by decide) rfl (Nat.le_of_ble_eq_true rfl) (fun p e s m args below meth c hr hlk hno hsz hKs C => ?_)
  rw [hsz] at hKs
  have hKs : zKX sa (va_A (zW ca ad M) sz) s s.heap := hKs
  refine xw_lvE (lv' := [(0, .ref (ad 0)), (1, .int x), (2, .int y)]) rfl ?_
  refine xw_iload_n C 1 d_Ex_count_0 rfl rfl (pc' := 1) rfl ?_
  refine xw_aload_n C 0 d_Ex_count_1 rfl rfl (pc' := 2) rfl ?_
  refine xw_get C u_Ex 0 zr_0 rfl 0 (by decide) k_182 rfl rfl d_Ex_count_2 (pc' := 5) rfl ?_
  refine xw_get C u_Tl 1 zr_1 rfl 1 (by decide) k_128 rfl rfl d_Ex_count_5 (pc' := 8) rfl ?_
  refine xw_topi (y := nI n) hz ?_
  refine xw_callXSv C (c_Ex_needIndex l hl0 D ca ad M sa x (nI n)) ⟨zg_B C 2 k_308 k_24 k_310 q_Ex_needIndex ⟨by decide, by decide⟩, C.2.2.2.2.1 _ k_309⟩ (fun _ _ _ _ h => h.call) (fun _ _ _ hD hS hU hW => hKs.at C.2.2.2.2.2.2 hD hS hU hW) rfl rfl (Nat.le_of_ble_eq_true rfl) d_Ex_count_8 ⟨by decide, by decide⟩ (pc' := 11) rfl (fun E u hx => xx_out C hlk hno (F := zW ca ad) u rfl (by exact ⟨hx.1, hx.2.1, fun h9 => hx.2.2 h9.1⟩) (by decide) (by decide)) (fun M2 hp3 => ?_)
  obtain ⟨hme, hi0, hi1⟩ := hp3
  rw [hme]
  clear hme
  obtain ⟨i, hb_i, he_i⟩ := xp_ix (n := n) (by omega) hi0 hi1
  subst he_i
  refine xw_iload_n C 2 d_Ex_count_11 rfl rfl (pc' := 12) rfl ?_
  refine xw_iconst C (v := nI 4) d_Ex_count_12 (by decide) (pc' := 13) rfl ?_
  refine xw_callXSv C (c_Ex_needIndex l hl0 D ca ad M sa y (nI 4)) ⟨zg_B C 2 k_308 k_24 k_310 q_Ex_needIndex ⟨by decide, by decide⟩, C.2.2.2.2.1 _ k_309⟩ (fun _ _ _ _ h => h.call) (fun _ _ _ hD hS hU hW => hKs.at C.2.2.2.2.2.2 hD hS hU hW) rfl rfl (Nat.le_of_ble_eq_true rfl) d_Ex_count_13 ⟨by decide, by decide⟩ (pc' := 16) rfl (fun E u hx => xx_out C hlk hno (F := zW ca ad) u rfl (by exact ⟨hx.1, hx.2.1, fun h9 => hx.2.2 h9.2⟩) (by decide) (by decide)) (fun M5 hp6 => ?_)
  obtain ⟨hme, hi0, hi1⟩ := hp6
  rw [hme]
  clear hme
  obtain ⟨w, hb_w, he_w⟩ := xp_ix (n := 4) (by omega) hi0 hi1
  subst he_w
  refine xw_aload_n C 0 d_Ex_count_16 rfl rfl (pc' := 17) rfl ?_
  refine xw_get C u_Ex 0 zr_0 rfl 0 (by decide) k_182 rfl rfl d_Ex_count_17 (pc' := 20) rfl ?_
  refine xw_get C u_Tl 1 zr_1 rfl 0 (by decide) k_125 rfl rfl d_Ex_count_20 (pc' := 23) rfl ?_
  refine xw_iload_n C 1 d_Ex_count_23 rfl rfl (pc' := 24) rfl ?_
  refine xw_aald C 2 1 zr_2 rfl i rfl (by omega) (by decide) rfl d_Ex_count_24 (pc' := 25) rfl ?_
  refine xw_get C u_Tk (14 + i) (zr_Tk (t := i) (by omega)) rfl 6 (by decide) k_107 rfl rfl d_Ex_count_25 (pc' := 28) rfl ?_
  refine xw_iload_n C 2 d_Ex_count_28 rfl rfl (pc' := 29) rfl ?_
  refine xw_iald C (32 + i) 0 (zr_ct (t := i) (by omega)) rfl w rfl (by omega) (by decide) d_Ex_count_29 (pc' := 30) rfl ?_
  refine xw_iretX C hr hlk (F := zW ca ad) M rfl ?_ d_Ex_count_30 (by decide) (by decide)
  exact ⟨rfl, i, w, hb_i, hb_w, rfl, rfl, rfl⟩

set_option maxHeartbeats 4000000 in
set_option maxRecDepth 100000 in
/-- shared -/
theorem c_Ex_shared (l : Launch) (hl0 : l.stackTraces = false) (D : va_G) (ca : Nat → ClassId) (ad : Nat → Nat) (M : Nat → Nat → Int32) (sa : Nat → Nat) (x : Int32)  : xw_Xi l y_Ex_shared (.code y_Ex_shared b_Ex_shared 2 (some .int) :: zG) { frames := 7, cells := 1, slots := 6, locals := 120 } D zCl (zT ca) [.ref (ad 0), .int x] (zW ca ad M) (fun U => zKX sa (va_A (zW ca ad M) U.heap.size) U U.heap) 1 6 (zW ca ad) (fun r M' => M' = M ∧ ∃ i, i < 16 ∧ x = nI i ∧ r = M 12 i) (fun E M' => M' = M ∧ E = "java/lang/IndexOutOfBoundsException" ∧ ¬ (¬ x < 0 ∧ x < nI 16)) := by
  intro sz
  refine xw_metX (cc := b_Ex_shared) (maxL := 2) (ret := (some .int)) (by decide) rfl (Nat.le_of_ble_eq_true rfl) (fun p e s m args below meth c hr hlk hno hsz hKs C => ?_)
  rw [hsz] at hKs
  have hKs : zKX sa (va_A (zW ca ad M) sz) s s.heap := hKs
  refine xw_lvE (lv' := [(0, .ref (ad 0)), (1, .int x)]) rfl ?_
  refine xw_iload_n C 1 d_Ex_shared_0 rfl rfl (pc' := 1) rfl ?_
  refine xw_bipush C (v := nI 16) d_Ex_shared_1 (by decide) (pc' := 3) rfl ?_
  refine xw_callXSv C (c_Ex_needIndex l hl0 D ca ad M sa x (nI 16)) ⟨zg_B C 2 k_308 k_24 k_310 q_Ex_needIndex ⟨by decide, by decide⟩, C.2.2.2.2.1 _ k_309⟩ (fun _ _ _ _ h => h.call) (fun _ _ _ hD hS hU hW => hKs.at C.2.2.2.2.2.2 hD hS hU hW) rfl rfl (Nat.le_of_ble_eq_true rfl) d_Ex_shared_3 ⟨by decide, by decide⟩ (pc' := 6) rfl (fun E u hx => xx_out C hlk hno (F := zW ca ad) u rfl (by exact ⟨hx.1, hx.2.1, hx.2.2⟩) (by decide) (by decide)) (fun M2 hp3 => ?_)
  obtain ⟨hme, hi0, hi1⟩ := hp3
  rw [hme]
  clear hme
  obtain ⟨i, hb_i, he_i⟩ := xp_ix (n := 16) (by omega) hi0 hi1
  subst he_i
  refine xw_aload_n C 0 d_Ex_shared_6 rfl rfl (pc' := 7) rfl ?_
  refine xw_get C u_Ex 0 zr_0 rfl 3 (by decide) k_185 rfl rfl d_Ex_shared_7 (pc' := 10) rfl ?_
  refine xw_get C u_Mc 10 zr_10 rfl 1 (by decide) k_176 rfl rfl d_Ex_shared_10 (pc' := 13) rfl ?_
  refine xw_iload_n C 1 d_Ex_shared_13 rfl rfl (pc' := 14) rfl ?_
  refine xw_iald C 12 0 zr_12 rfl i rfl (by omega) (by decide) d_Ex_shared_14 (pc' := 15) rfl ?_
  refine xw_iretX C hr hlk (F := zW ca ad) M rfl ?_ d_Ex_shared_15 (by decide) (by decide)
  exact ⟨rfl, i, hb_i, rfl, rfl⟩
end
