section
-- ===== PART A: goes FIRST, ahead of the names: the tables' words, and 'selects' of the private methods out of them =====
/-- a private method of a class that the tables say can be made, by its rows of tables_1 -/
def lw_okq (q : MethodName × Nat) : Prop := (q.1.cls ≠ "java/lang/invoke/MethodHandle" ∧ q.1.cls ≠ "java/lang/invoke/VarHandle") ∧ Cond.instantiable q.1.cls q.2 ∈ tables_1 ∧ Cond.privateMethod q.1 ∈ tables_1 ∧ Cond.instanceMethod q.1 ∈ tables_1
theorem lw_p0 : lw_okq (⟨"UmbrellaLand$Republic", "citizensIn", "(I)I"⟩, 9) := ⟨⟨by decide +kernel, by decide +kernel⟩, List.mem_of_getElem? (i := 25) (by decide +kernel), List.mem_of_getElem? (i := 227) (by decide +kernel), List.mem_of_getElem? (i := 228) (by decide +kernel)⟩
theorem lw_p1 : lw_okq (⟨"UmbrellaLand$Republic", "umbrellasIn", "(I)I"⟩, 9) := ⟨⟨by decide +kernel, by decide +kernel⟩, List.mem_of_getElem? (i := 25) (by decide +kernel), List.mem_of_getElem? (i := 243) (by decide +kernel), List.mem_of_getElem? (i := 244) (by decide +kernel)⟩
theorem lw_p2 : lw_okq (⟨"java/lang/Throwable", "fillInStackTrace", "(I)Ljava/lang/Throwable;"⟩, 6) := ⟨⟨by decide +kernel, by decide +kernel⟩, List.mem_of_getElem? (i := 313) (by decide +kernel), List.mem_of_getElem? (i := 311) (by decide +kernel), List.mem_of_getElem? (i := 312) (by decide +kernel)⟩
theorem lw_p3 : lw_okq (⟨"UmbrellaLand", "checkShelter", "(I)V"⟩, 2) := ⟨⟨by decide +kernel, by decide +kernel⟩, List.mem_of_getElem? (i := 17) (by decide +kernel), List.mem_of_getElem? (i := 379) (by decide +kernel), List.mem_of_getElem? (i := 380) (by decide +kernel)⟩
theorem lw_p4 : lw_okq (⟨"UmbrellaLand$Republic", "hoursBetween", "(II)I"⟩, 9) := ⟨⟨by decide +kernel, by decide +kernel⟩, List.mem_of_getElem? (i := 25) (by decide +kernel), List.mem_of_getElem? (i := 431) (by decide +kernel), List.mem_of_getElem? (i := 432) (by decide +kernel)⟩
theorem lw_p5 : lw_okq (⟨"UmbrellaLand", "checkUmbrella", "(I)V"⟩, 2) := ⟨⟨by decide +kernel, by decide +kernel⟩, List.mem_of_getElem? (i := 17) (by decide +kernel), List.mem_of_getElem? (i := 483) (by decide +kernel), List.mem_of_getElem? (i := 484) (by decide +kernel)⟩
theorem lw_p6 : lw_okq (⟨"UmbrellaLand", "checkCitizen", "(I)V"⟩, 2) := ⟨⟨by decide +kernel, by decide +kernel⟩, List.mem_of_getElem? (i := 17) (by decide +kernel), List.mem_of_getElem? (i := 499) (by decide +kernel), List.mem_of_getElem? (i := 500) (by decide +kernel)⟩
theorem lw_p7 : lw_okq (⟨"UmbrellaLand$Republic", "letUmbrellasWait", "()V"⟩, 9) := ⟨⟨by decide +kernel, by decide +kernel⟩, List.mem_of_getElem? (i := 25) (by decide +kernel), List.mem_of_getElem? (i := 533) (by decide +kernel), List.mem_of_getElem? (i := 534) (by decide +kernel)⟩
theorem lw_p8 : lw_okq (⟨"UmbrellaLand$Republic", "letCitizensLeave", "(I)I"⟩, 9) := ⟨⟨by decide +kernel, by decide +kernel⟩, List.mem_of_getElem? (i := 25) (by decide +kernel), List.mem_of_getElem? (i := 541) (by decide +kernel), List.mem_of_getElem? (i := 542) (by decide +kernel)⟩
theorem lw_p9 : lw_okq (⟨"UmbrellaLand$Republic", "takeUmbrella", "(I)Z"⟩, 9) := ⟨⟨by decide +kernel, by decide +kernel⟩, List.mem_of_getElem? (i := 25) (by decide +kernel), List.mem_of_getElem? (i := 549) (by decide +kernel), List.mem_of_getElem? (i := 550) (by decide +kernel)⟩
theorem lw_p10 : lw_okq (⟨"UmbrellaLand$Republic", "letCitizensWalk", "(I)V"⟩, 9) := ⟨⟨by decide +kernel, by decide +kernel⟩, List.mem_of_getElem? (i := 25) (by decide +kernel), List.mem_of_getElem? (i := 566) (by decide +kernel), List.mem_of_getElem? (i := 567) (by decide +kernel)⟩
theorem lw_p11 : lw_okq (⟨"UmbrellaLand$Republic", "meetRain", "(LUmbrellaLand$Citizen;I)V"⟩, 9) := ⟨⟨by decide +kernel, by decide +kernel⟩, List.mem_of_getElem? (i := 25) (by decide +kernel), List.mem_of_getElem? (i := 570) (by decide +kernel), List.mem_of_getElem? (i := 571) (by decide +kernel)⟩
theorem lw_p12 : lw_okq (⟨"UmbrellaLand$Republic", "arrive", "(LUmbrellaLand$Citizen;)V"⟩, 9) := ⟨⟨by decide +kernel, by decide +kernel⟩, List.mem_of_getElem? (i := 25) (by decide +kernel), List.mem_of_getElem? (i := 578) (by decide +kernel), List.mem_of_getElem? (i := 579) (by decide +kernel)⟩
theorem lw_p13 : lw_okq (⟨"UmbrellaLand$Republic", "driveCart", "()V"⟩, 9) := ⟨⟨by decide +kernel, by decide +kernel⟩, List.mem_of_getElem? (i := 25) (by decide +kernel), List.mem_of_getElem? (i := 603) (by decide +kernel), List.mem_of_getElem? (i := 604) (by decide +kernel)⟩
theorem lw_p14 : lw_okq (⟨"UmbrellaLand$Republic", "endDay", "()V"⟩, 9) := ⟨⟨by decide +kernel, by decide +kernel⟩, List.mem_of_getElem? (i := 25) (by decide +kernel), List.mem_of_getElem? (i := 607) (by decide +kernel), List.mem_of_getElem? (i := 608) (by decide +kernel)⟩
theorem lw_p15 : lw_okq (⟨"UmbrellaLand", "wetAfter", "(II)I"⟩, 2) := ⟨⟨by decide +kernel, by decide +kernel⟩, List.mem_of_getElem? (i := 17) (by decide +kernel), List.mem_of_getElem? (i := 653) (by decide +kernel), List.mem_of_getElem? (i := 654) (by decide +kernel)⟩
def lw_privs_1 : List (MethodName × Nat) := [(⟨"UmbrellaLand$Republic", "citizensIn", "(I)I"⟩, 9), (⟨"UmbrellaLand$Republic", "umbrellasIn", "(I)I"⟩, 9), (⟨"java/lang/Throwable", "fillInStackTrace", "(I)Ljava/lang/Throwable;"⟩, 6), (⟨"UmbrellaLand", "checkShelter", "(I)V"⟩, 2), (⟨"UmbrellaLand$Republic", "hoursBetween", "(II)I"⟩, 9), (⟨"UmbrellaLand", "checkUmbrella", "(I)V"⟩, 2), (⟨"UmbrellaLand", "checkCitizen", "(I)V"⟩, 2), (⟨"UmbrellaLand$Republic", "letUmbrellasWait", "()V"⟩, 9), (⟨"UmbrellaLand$Republic", "letCitizensLeave", "(I)I"⟩, 9), (⟨"UmbrellaLand$Republic", "takeUmbrella", "(I)Z"⟩, 9), (⟨"UmbrellaLand$Republic", "letCitizensWalk", "(I)V"⟩, 9), (⟨"UmbrellaLand$Republic", "meetRain", "(LUmbrellaLand$Citizen;I)V"⟩, 9), (⟨"UmbrellaLand$Republic", "arrive", "(LUmbrellaLand$Citizen;)V"⟩, 9), (⟨"UmbrellaLand$Republic", "driveCart", "()V"⟩, 9), (⟨"UmbrellaLand$Republic", "endDay", "()V"⟩, 9), (⟨"UmbrellaLand", "wetAfter", "(II)I"⟩, 2)]
theorem lw_r1 : ∀ q ∈ lw_privs_1, lw_okq q := List.forall_mem_cons.mpr ⟨lw_p0, List.forall_mem_cons.mpr ⟨lw_p1, List.forall_mem_cons.mpr ⟨lw_p2, List.forall_mem_cons.mpr ⟨lw_p3, List.forall_mem_cons.mpr ⟨lw_p4, List.forall_mem_cons.mpr ⟨lw_p5, List.forall_mem_cons.mpr ⟨lw_p6, List.forall_mem_cons.mpr ⟨lw_p7, List.forall_mem_cons.mpr ⟨lw_p8, List.forall_mem_cons.mpr ⟨lw_p9, List.forall_mem_cons.mpr ⟨lw_p10, List.forall_mem_cons.mpr ⟨lw_p11, List.forall_mem_cons.mpr ⟨lw_p12, List.forall_mem_cons.mpr ⟨lw_p13, List.forall_mem_cons.mpr ⟨lw_p14, List.forall_mem_cons.mpr ⟨lw_p15, fun _ h => absurd h List.not_mem_nil⟩⟩⟩⟩⟩⟩⟩⟩⟩⟩⟩⟩⟩⟩⟩⟩
theorem lw_p16 : lw_okq (⟨"UmbrellaLandModel", "no", "(I)I"⟩, 4) := ⟨⟨by decide +kernel, by decide +kernel⟩, List.mem_of_getElem? (i := 673) (by decide +kernel), List.mem_of_getElem? (i := 797) (by decide +kernel), List.mem_of_getElem? (i := 798) (by decide +kernel)⟩
theorem lw_p17 : lw_okq (⟨"UmbrellaLandModel", "isShelter", "(I)Z"⟩, 4) := ⟨⟨by decide +kernel, by decide +kernel⟩, List.mem_of_getElem? (i := 673) (by decide +kernel), List.mem_of_getElem? (i := 805) (by decide +kernel), List.mem_of_getElem? (i := 806) (by decide +kernel)⟩
theorem lw_p18 : lw_okq (⟨"UmbrellaLandModel", "shelterTold", "(II)I"⟩, 4) := ⟨⟨by decide +kernel, by decide +kernel⟩, List.mem_of_getElem? (i := 673) (by decide +kernel), List.mem_of_getElem? (i := 830) (by decide +kernel), List.mem_of_getElem? (i := 831) (by decide +kernel)⟩
theorem lw_p19 : lw_okq (⟨"UmbrellaLandModel", "umbrellaTold", "(II)I"⟩, 4) := ⟨⟨by decide +kernel, by decide +kernel⟩, List.mem_of_getElem? (i := 673) (by decide +kernel), List.mem_of_getElem? (i := 846) (by decide +kernel), List.mem_of_getElem? (i := 847) (by decide +kernel)⟩
theorem lw_p20 : lw_okq (⟨"UmbrellaLandModel", "isCitizen", "(I)Z"⟩, 4) := ⟨⟨by decide +kernel, by decide +kernel⟩, List.mem_of_getElem? (i := 673) (by decide +kernel), List.mem_of_getElem? (i := 854) (by decide +kernel), List.mem_of_getElem? (i := 855) (by decide +kernel)⟩
theorem lw_p21 : lw_okq (⟨"UmbrellaLandModel", "citizenTold", "(II)I"⟩, 4) := ⟨⟨by decide +kernel, by decide +kernel⟩, List.mem_of_getElem? (i := 673) (by decide +kernel), List.mem_of_getElem? (i := 858) (by decide +kernel), List.mem_of_getElem? (i := 859) (by decide +kernel)⟩
theorem lw_p22 : lw_okq (⟨"UmbrellaLandModel", "counted", "(I)I"⟩, 4) := ⟨⟨by decide +kernel, by decide +kernel⟩, List.mem_of_getElem? (i := 673) (by decide +kernel), List.mem_of_getElem? (i := 866) (by decide +kernel), List.mem_of_getElem? (i := 867) (by decide +kernel)⟩
theorem lw_p23 : lw_okq (⟨"UmbrellaLandModel$State", "comeBack", "(I)V"⟩, 22) := ⟨⟨by decide +kernel, by decide +kernel⟩, List.mem_of_getElem? (i := 679) (by decide +kernel), List.mem_of_getElem? (i := 889) (by decide +kernel), List.mem_of_getElem? (i := 890) (by decide +kernel)⟩
theorem lw_p24 : lw_okq (⟨"UmbrellaLandModel$State", "leave", "(II)I"⟩, 22) := ⟨⟨by decide +kernel, by decide +kernel⟩, List.mem_of_getElem? (i := 679) (by decide +kernel), List.mem_of_getElem? (i := 893) (by decide +kernel), List.mem_of_getElem? (i := 894) (by decide +kernel)⟩
theorem lw_p25 : lw_okq (⟨"UmbrellaLandModel$State", "walk", "(II)V"⟩, 22) := ⟨⟨by decide +kernel, by decide +kernel⟩, List.mem_of_getElem? (i := 679) (by decide +kernel), List.mem_of_getElem? (i := 904) (by decide +kernel), List.mem_of_getElem? (i := 905) (by decide +kernel)⟩
theorem lw_p26 : lw_okq (⟨"UmbrellaLandModel$State", "lay", "(II)V"⟩, 22) := ⟨⟨by decide +kernel, by decide +kernel⟩, List.mem_of_getElem? (i := 679) (by decide +kernel), List.mem_of_getElem? (i := 908) (by decide +kernel), List.mem_of_getElem? (i := 909) (by decide +kernel)⟩
theorem lw_p27 : lw_okq (⟨"UmbrellaLandModel$State", "cart", "()V"⟩, 22) := ⟨⟨by decide +kernel, by decide +kernel⟩, List.mem_of_getElem? (i := 679) (by decide +kernel), List.mem_of_getElem? (i := 913) (by decide +kernel), List.mem_of_getElem? (i := 914) (by decide +kernel)⟩
theorem lw_p28 : lw_okq (⟨"UmbrellaLandModel$State", "decree", "()V"⟩, 22) := ⟨⟨by decide +kernel, by decide +kernel⟩, List.mem_of_getElem? (i := 679) (by decide +kernel), List.mem_of_getElem? (i := 918) (by decide +kernel), List.mem_of_getElem? (i := 919) (by decide +kernel)⟩
theorem lw_p29 : lw_okq (⟨"UmbrellaLandModel$State", "copy", "([I[I)V"⟩, 22) := ⟨⟨by decide +kernel, by decide +kernel⟩, List.mem_of_getElem? (i := 679) (by decide +kernel), List.mem_of_getElem? (i := 930) (by decide +kernel), List.mem_of_getElem? (i := 931) (by decide +kernel)⟩
def lw_privs_2 : List (MethodName × Nat) := [(⟨"UmbrellaLandModel", "no", "(I)I"⟩, 4), (⟨"UmbrellaLandModel", "isShelter", "(I)Z"⟩, 4), (⟨"UmbrellaLandModel", "shelterTold", "(II)I"⟩, 4), (⟨"UmbrellaLandModel", "umbrellaTold", "(II)I"⟩, 4), (⟨"UmbrellaLandModel", "isCitizen", "(I)Z"⟩, 4), (⟨"UmbrellaLandModel", "citizenTold", "(II)I"⟩, 4), (⟨"UmbrellaLandModel", "counted", "(I)I"⟩, 4), (⟨"UmbrellaLandModel$State", "comeBack", "(I)V"⟩, 22), (⟨"UmbrellaLandModel$State", "leave", "(II)I"⟩, 22), (⟨"UmbrellaLandModel$State", "walk", "(II)V"⟩, 22), (⟨"UmbrellaLandModel$State", "lay", "(II)V"⟩, 22), (⟨"UmbrellaLandModel$State", "cart", "()V"⟩, 22), (⟨"UmbrellaLandModel$State", "decree", "()V"⟩, 22), (⟨"UmbrellaLandModel$State", "copy", "([I[I)V"⟩, 22)]
theorem lw_r2 : ∀ q ∈ lw_privs_2, lw_okq q := List.forall_mem_cons.mpr ⟨lw_p16, List.forall_mem_cons.mpr ⟨lw_p17, List.forall_mem_cons.mpr ⟨lw_p18, List.forall_mem_cons.mpr ⟨lw_p19, List.forall_mem_cons.mpr ⟨lw_p20, List.forall_mem_cons.mpr ⟨lw_p21, List.forall_mem_cons.mpr ⟨lw_p22, List.forall_mem_cons.mpr ⟨lw_p23, List.forall_mem_cons.mpr ⟨lw_p24, List.forall_mem_cons.mpr ⟨lw_p25, List.forall_mem_cons.mpr ⟨lw_p26, List.forall_mem_cons.mpr ⟨lw_p27, List.forall_mem_cons.mpr ⟨lw_p28, List.forall_mem_cons.mpr ⟨lw_p29, fun _ h => absurd h List.not_mem_nil⟩⟩⟩⟩⟩⟩⟩⟩⟩⟩⟩⟩⟩⟩
def lw_privs : List (MethodName × Nat) := lw_privs_1 ++ (lw_privs_2)
def lw_tbl : List Cond := k2_sels lw_privs ++ tables_1
theorem lw_privs_ok : ∀ q ∈ lw_privs, lw_okq q := by
  show ∀ q ∈ lw_privs_1 ++ (lw_privs_2), lw_okq q
  exact List.forall_mem_append.mpr ⟨lw_r1, lw_r2⟩
/-- the streams that the claim lets the run draw from -/
abbrev lw_cs : List Choice := [Jvm.Choice.named "NaN.bits"]
theorem lw_bits : nanBits ∈ lw_cs := by first | decide | exact List.mem_cons_self | simp [lw_cs, nanBits]
end
section
/-! ===== BEGIN words of one list among another's, by their places ===== -/
theorem goodIn_r {big : List Cond} (ws : List Cond) (ps : List Nat) (hp : ws = ps.filterMap (fun i => big[i]?)) (h : ws.all goodWord = true) : GoodIn big ws := by
  intro w hw
  have h1 := List.all_eq_true.mp h w hw
  rw [hp] at hw
  obtain ⟨i, -, hi⟩ := List.mem_filterMap.mp hw
  have hm : w ∈ big := by first | exact List.mem_of_getElem? hi | exact List.getElem?_mem hi
  exact ⟨hm, good_of_word h1⟩
theorem goodIn_app {big a b : List Cond} (ha : GoodIn big a) (hb : GoodIn big b) : GoodIn big (a ++ b) := fun w h => (List.mem_append.mp h).elim (ha w) (hb w)
theorem goodIn_ca {big a b : List Cond} {c : Cond} (ha : GoodIn big (c :: a)) (hb : GoodIn big b) : GoodIn big (c :: (a ++ b)) := fun w h => (List.mem_cons.mp h).elim (fun e => ha w (List.mem_cons.mpr (Or.inl e))) (fun h => (List.mem_append.mp h).elim (fun h => ha w (List.mem_cons.mpr (Or.inr h))) (hb w))
theorem goodIn_sub {big ws : List Cond} (hm : ∀ w ∈ ws, w ∈ big) (h : ws.all goodWord = true) : GoodIn big ws := fun w hw => ⟨hm w hw, good_of_word (List.all_eq_true.mp h w hw)⟩
/-! ===== END ===== -/

/-! ===== BEGIN exceptions that leave a method, and their catching by the caller (launches without stack traces) ===== -/
section VXA
/-! The laws vx_back, vx_callV, vx_callS, vx_callSW, vx_throw0, vx_throwS follow proofs of the library, with one case more: JvmDerived/Free/Laws.lean (Back.of_free), Shelf42/LK1.lean (callV, callS), Shelf/KitTraced.lean (throwNew0V, throwNewS). -/
/-- where a method has thrown q: the class by its name, the cell, what was written, the world -/
def vx_T (XC : String → State → State → Prop) (st : State) (q : Addr) (t : State) (mc ms : Nat) (free : Addr → Prop) : Prop :=
  ∃ (E : String) (ce : Cell) (L : List Loc), XC E st t ∧ t.heap[q]? = some ce ∧ ce.vm = .none ∧ st.vm.findClass E = some ce.cls ∧ st.WarmedH t.vm ∧ st.sameButNew ({ t with vm := st.vm } : State) L mc ms ∧ ∀ z ∈ L, free z.base
def vx_Q (Qc : Array Value → State → Outcome → State → Prop) (XC : String → State → State → Prop) (mc ms : Nat) (free : Addr → Prop) : Array Value → State → Outcome → State → Prop := fun a st o t =>
  (Qc a st o t ∧ ∃ L, FrameEnd st o t L mc ms ∧ ∀ q ∈ L, free q.base) ∨ ∃ q, o = .threw q ∧ vx_T XC st q t mc ms free
/-- a callee that returns or throws -/
def vx_Met (l : Launch) (y : MethodName) (ws : List Cond) (rm : Room) (Pc : Array Value → State → Prop) (Qc : Array Value → State → Outcome → State → Prop) (XC : String → State → State → Prop) (mc ms : Nat) (free : Addr → Prop) : Prop :=
  MetFree l y (headSpec ws rm) Pc (fun _ _ _ _ _ => True) (vx_Q Qc XC mc ms free)
def vx_Post (XC : String → State → State → Prop) (mc ms : Nat) (free : Addr → Prop) : Pt → Array Value → Addr → Pt → Prop := fun A a q B =>
  ∃ (g : JFrame) (mk : MethodId) (t : State) (L : List Loc) (E : String) (ce : Cell), B.U.heap = t.heap ∧ B.U.vm = t.vm ∧ XC E (A.U.calling g mk a) t ∧ t.heap[q]? = some ce ∧ ce.vm = .none ∧ A.U.vm.findClass E = some ce.cls ∧ B.locs = A.locs ++ L ∧ (∀ z ∈ L, free z.base) ∧ B.cells = A.cells + mc ∧ B.slots = A.slots + ms
def vx_Back (l : Launch) (R : Room) (p : Program) (e : Env) (below : List Frame) (s : State) (sargs : Array Value) (y : MethodName) (len W9 : Nat)
    (Pre : Pt → Array Value → Prop) (Post : Pt → Array Value → Option Value → Pt → Prop) (PostX : Pt → Array Value → Addr → Pt → Prop) : Prop :=
  ∀ (m : MethodId) (meth : Method) (c : Code) (A : Pt) (g : JFrame) (ig : Instr) (mk : MethodId) (a : Array Value),
    Stand p l e R s m sargs below meth c A.U A.locs A.cells A.slots → g.method = m → g.locals.size = c.maxLocals → decode c.code g.pc = .ok (ig, len) →
    2 * g.monitorRoom + (g.stack.map fun v => v.category).sum ≤ W9 → A.U.methodNamed? y = some mk → Pre A a →
    (∃ (v : Option Value) (B : Pt), Stand p l e R s m sargs below meth c B.U B.locs B.cells B.slots ∧ Post A a v B ∧
      Steps p.tables e below (doInvoke e (A.U.setTop g) [] mk a).1 (B.U.setTop { g with pc := g.pc + len, stack := v.toList ++ g.stack })) ∨
    (∃ (q : Addr) (B : Pt), Stand p l e R s m sargs below meth c B.U B.locs B.cells B.slots ∧ PostX A a q B ∧
      Steps p.tables e below (doInvoke e (A.U.setTop g) [] mk a).1 ((B.U.setTop g).pushFrame (.throwing q)))
section Payer
variable {l : Launch} {R : Room} {p : Program} {e : Env} {below : List Frame} {s : State} {sargs : Array Value} {y : MethodName} {len W9 : Nat}
theorem vx_back {ws : List Cond} {rm : Room} {Pc : Array Value → State → Prop} {Qc : Array Value → State → Outcome → State → Prop} {XC : String → State → State → Prop} {mc ms : Nat} {free : Addr → Prop} {bytes : ByteArray} {maxL : Nat} {ret : Option FieldType}
    (hM : vx_Met l y ws rm Pc Qc XC mc ms free) (hblind : FrameBlind Pc) (hrc : rm.cells = mc) (hrs : rm.slots = ms)
    (hframes : rm.frames + 1 ≤ R.frames) (hlocals : W9 + (maxL + 11) + rm.locals ≤ R.locals)
    (hws : ∀ w ∈ ws, ∀ a' U, s.WarmedH U.vm → w.before a' U = true) (hcode : Cond.code y bytes maxL ret ∈ ws) (hinit : ∀ a' U, s.WarmedH U.vm → (Cond.initialized y.cls).before a' U = true) :
    vx_Back l R p e below s sargs y len W9 (PreOf R mc ms Pc) (PostOf Qc mc ms free) (vx_Post XC mc ms free) := by
  intro m meth c A g ig mk a X hg hsize hdg hW hn hp
  have h1 : (headSpec ws rm).pre.before a A.U = true := atoms_intro fun w hw => hws w hw _ _ X.warmed
  have h2 : (Cond.code y bytes maxL ret).before a A.U = true := hws _ hcode _ _ X.warmed
  have h3 : (Cond.initialized y.cls).before a A.U = true := hinit _ _ X.warmed
  have h4 : A.cells + (headSpec ws rm).room.cells ≤ R.cells := by rw [show (headSpec ws rm).room.cells = mc from hrc]; exact hp.1
  have h5 : A.slots + (headSpec ws rm).room.slots ≤ R.slots := by rw [show (headSpec ws rm).room.slots = ms from hrs]; exact hp.2.1
  have hPc : Pc a (A.U.calling g mk a) := hblind _ _ _ _ hp.2.2
  obtain ⟨U, Ls, c0, s0⟩ := A
  dsimp only [Pt.U, Pt.locs, Pt.cells, Pt.slots] at h1 h2 h3 h4 h5 X hn hPc ⊢
  obtain ⟨methY, cY, hmY, hcY, -, hlY, -, -, -, -⟩ := Cond.code_spec hn h2
  obtain ⟨kY, hkY, -⟩ := className_of_methodNamed hn
  have hinitY : kY.init = .initialized := Cond.initialized_spec (findClass_of_methodNamed hn) hkY h3
  have h : At U g.method c below := by rw [hg]; exact X.here
  have hlocals9 : W9 + (maxL + 11) + (headSpec ws rm).room.locals ≤ R.locals := hlocals
  have happ : (headSpec ws rm).appliesLoose y e.platform (U.calling g mk a) = true :=
    Spec.appliesLoose_calling (g := g) h hdg hn hkY hinitY
      (X.room_calling (g := g) (R' := (headSpec ws rm).room) hsize hmY hcY hframes (by rw [hlY]; omega) h4 h5) h1
  obtain ⟨mid, hmid⟩ := h.above
  have hfr : (U.setTop g).frames = (.java g :: mid) ++ below := by rw [State.frames_setTop' g h.top, hmid]; rfl
  obtain ⟨o, s₂, hsteps, -, hend, hq⟩ := Steps.callFree hM p X.admits X.cas X.clock (acts := []) hfr happ hPc trivial
  have hq' : vx_Q Qc XC mc ms free a (U.calling g mk a) o s₂ := hq
  rw [State.frames_setTop' g h.top] at hend
  obtain ⟨g₀, hg0⟩ := Option.isSome_iff_exists.mp h.top
  obtain ⟨r, hr⟩ := State.topJava?_eq_some.mp hg0
  have hr' : (({ U with heap := s₂.heap, slotsUsed := s₂.slotsUsed } : State).setVm s₂.vm).frames = .java g₀ :: r := hr
  rcases hq' with ⟨hqc, L, hfe, hL⟩ | ⟨q, rfl, E, ce, L, hx, hce, hcv, hcl, hW₂, hsm, hL⟩
  · obtain ⟨⟨v, rfl⟩, hW₂, e2, q2, q3, q4, q5, q6⟩ := id hfe
    have e3 : s₂ = ({ (U.calling g mk a).setFrames s₂.frames with heap := s₂.heap, slotsUsed := s₂.slotsUsed } : State).setVm s₂.vm := by
      have : s₂ = ({ s₂ with vm := (U.calling g mk a).vm } : State).setVm s₂.vm := rfl
      rw [e2] at this
      exact this
    obtain ⟨c₂, i₂, len₂, hc₂, hd₂, hf₂⟩ := hend
    have hW' : U.WarmedH s₂.vm := hW₂
    have hcc : c₂ = c := by
      have h1 : s₂.code? g.method = U.code? g.method := by
        rw [State.code?_eq, State.code?_eq, hW'.alike.method?]
      exact Option.some.inj (hc₂.symm.trans (h1.trans h.code))
    subst hcc
    have hlen : len₂ = len := by rw [hdg] at hd₂; cases hd₂; rfl
    subst hlen
    have hs₂ : s₂ = (({ U with heap := s₂.heap, slotsUsed := s₂.slotsUsed } : State).setVm s₂.vm).setTop { g with pc := g.pc + len₂, stack := v.toList ++ g.stack } := by
      refine e3.trans ?_
      rw [hf₂, State.calling_eq h.top, State.setFrames_setFrames, State.setTop_of_frames _ hr', hr]
      rfl
    have hsame : U.sameButNew ({ U with heap := s₂.heap, slotsUsed := s₂.slotsUsed } : State) L mc ms := by
      refine ⟨?_, q2, q3, q4, q5, q6⟩
      obtain ⟨t, ht, -⟩ := State.frames_cons hr
      show ({ U with heap := s₂.heap, slotsUsed := s₂.slotsUsed } : State) = { U.setFrames U.frames with heap := s₂.heap, slotsUsed := s₂.slotsUsed }
      rw [State.setFrames_self ht]
    subst hg
    refine Or.inl ⟨v, ⟨(({ U with heap := s₂.heap, slotsUsed := s₂.slotsUsed } : State).setVm s₂.vm), Ls ++ L, c0 + mc, s0 + ms⟩,
      ⟨X.admits, X.cas, X.clock, X.frames, X.room, X.hears, X.method, X.code, (X.here.setHeapUsed s₂.heap s₂.slotsUsed).setVm hW'.alike, X.tail, State.WarmedH.trans X.warmed hW', X.limits, X.bytes, X.same.trans (hsame.setVm s.vm)⟩,
      ⟨g, mk, s₂, L, rfl, rfl, hqc, rfl, hL, rfl, rfl⟩, ?_⟩
    show Steps p.tables e below _ ((({ U with heap := s₂.heap, slotsUsed := s₂.slotsUsed } : State).setVm s₂.vm).setTop { g with pc := g.pc + len₂, stack := v.toList ++ g.stack })
    rw [← hs₂]
    exact hsteps
  · obtain ⟨e2, q2, q3, q4, q5, q6⟩ := id hsm
    have e3 : s₂ = ({ (U.calling g mk a).setFrames s₂.frames with heap := s₂.heap, slotsUsed := s₂.slotsUsed } : State).setVm s₂.vm := by
      have : s₂ = ({ s₂ with vm := (U.calling g mk a).vm } : State).setVm s₂.vm := rfl
      rw [e2] at this
      exact this
    have hf₂ : s₂.frames = .throwing q :: .java g :: U.frames.tail := hend
    have hW' : U.WarmedH s₂.vm := hW₂
    have hs₂ : s₂ = ((({ U with heap := s₂.heap, slotsUsed := s₂.slotsUsed } : State).setVm s₂.vm).setTop g).pushFrame (.throwing q) := by
      refine e3.trans ?_
      rw [hf₂, State.calling_eq h.top, State.setFrames_setFrames, State.pushFrame, State.frames_setTop _ hr', State.setTop_of_frames _ hr', State.setFrames_setFrames, hr]
      rfl
    have hsame : U.sameButNew ({ U with heap := s₂.heap, slotsUsed := s₂.slotsUsed } : State) L mc ms := by
      refine ⟨?_, q2, q3, q4, q5, q6⟩
      obtain ⟨t, ht, -⟩ := State.frames_cons hr
      show ({ U with heap := s₂.heap, slotsUsed := s₂.slotsUsed } : State) = { U.setFrames U.frames with heap := s₂.heap, slotsUsed := s₂.slotsUsed }
      rw [State.setFrames_self ht]
    subst hg
    refine Or.inr ⟨q, ⟨(({ U with heap := s₂.heap, slotsUsed := s₂.slotsUsed } : State).setVm s₂.vm), Ls ++ L, c0 + mc, s0 + ms⟩,
      ⟨X.admits, X.cas, X.clock, X.frames, X.room, X.hears, X.method, X.code, (X.here.setHeapUsed s₂.heap s₂.slotsUsed).setVm hW'.alike, X.tail, State.WarmedH.trans X.warmed hW', X.limits, X.bytes, X.same.trans (hsame.setVm s.vm)⟩,
      ⟨g, mk, s₂, L, E, ce, rfl, rfl, hx, hce, hcv, hcl, rfl, hL, rfl, rfl⟩, ?_⟩
    show Steps p.tables e below _ (((({ U with heap := s₂.heap, slotsUsed := s₂.slotsUsed } : State).setVm s₂.vm).setTop g).pushFrame (.throwing q))
    rw [← hs₂]
    exact hsteps
end Payer
section Calls
variable {p : Program} {l : Launch} {e : Env} {R : Room} {s : State} {m : MethodId} {args : Array Value} {below : List Frame} {meth : Method} {c : Code} {T : State} {locs : List Loc} {cells slots : Nat}
theorem vx_callV (X : Stand p l e R s m args below meth c T locs cells slots) (hexec : p.tables.exec = Jvm.exec) {own C : String} {index : Nat} {y : MethodName} {bytes : ByteArray} {maxL : Nat} {ret : Option FieldType}
    (hown : s.vm.findClass own = some m.cls) (hlink : (Cond.methodLink own index y).before args s = true) (hinst : (Cond.instanceMethod y).before args s = true) (hsel : (Cond.selects C y y).before args s = true)
    (hcode : (Cond.code y bytes maxL ret).before args s = true) (hy : y.cls ≠ "java/lang/invoke/MethodHandle" ∧ y.cls ≠ "java/lang/invoke/VarHandle")
    {W9 : Nat} {Pre : Pt → Array Value → Prop} {Post : Pt → Array Value → Option Value → Pt → Prop} {PostX : Pt → Array Value → Addr → Pt → Prop} (hK : vx_Back l R p e below s args y 3 W9 Pre Post PostX)
    {b : Addr} {cellB : Cell} (hcell : T.heap[b]? = some cellB) (hobj : cellB.vm.isStatics = false) (hcls : s.vm.findClass C = some cellB.cls)
    {g : JFrame} (hg : g.method = m) (hsize : g.locals.size = c.maxLocals) {argsL rest : List Value} (hlen : ∀ sig, parseMethodDescriptor y.desc = some sig → argsL.length = sig.parameters.length)
    (hstack : g.stack = argsL.reverse ++ .ref b :: rest) (hW : 2 * g.monitorRoom + (rest.map fun v => v.category).sum ≤ W9) (hdg : decode c.code g.pc = .ok (.invokevirtual index, 3))
    (hpre : ∀ vm₁, s.WarmedH vm₁ → Pre ⟨T.setVm vm₁, locs, cells, slots⟩ (Value.ref b :: argsL).toArray) :
    (∃ (v : Option Value) (vm₁ : Vm) (B : Pt), s.WarmedH vm₁ ∧ Stand p l e R s m args below meth c B.U B.locs B.cells B.slots ∧ Post ⟨T.setVm vm₁, locs, cells, slots⟩ (Value.ref b :: argsL).toArray v B ∧
      ∀ target, Steps p.tables e below (B.U.setTop { g with pc := g.pc + 3, stack := v.toList ++ rest }) target → Steps p.tables e below (T.setTop g) target) ∨
    (∃ (q : Addr) (vm₁ : Vm) (B : Pt), s.WarmedH vm₁ ∧ Stand p l e R s m args below meth c B.U B.locs B.cells B.slots ∧ PostX ⟨T.setVm vm₁, locs, cells, slots⟩ (Value.ref b :: argsL).toArray q B ∧
      Steps p.tables e below (T.setTop g) ((B.U.setTop { g with stack := rest }).pushFrame (.throwing q))) := by
  obtain ⟨mk, methM, hnamed, hmethM, hstM, habM⟩ := Cond.instanceMethod_spec hinst
  obtain ⟨methM', cM, hmethM', -, -, -, -, -, -, hsigM⟩ := Cond.code_spec hnamed hcode
  cases hmethM.symm.trans hmethM'
  obtain ⟨c2, r2, m2, q1, q2, q3, q4, kP, hkP, hkPi⟩ := Cond.selects_spec hsel
  cases hcls.symm.trans q1
  cases (State.methodFound?_of_named hnamed hy).symm.trans q2
  cases hnamed.symm.trans q3
  have hselP : selectMethod e.platform s.vm cellB.cls mk = .method mk := by rw [Launch.admits_selectMethod X.admits]; exact q4
  obtain ⟨vm₁, X₁, hstep₁⟩ := X.invokevirtual hexec hown hlink hnamed hmethM hstM hkP hkPi hy (a := b) (cell := cellB) hcell
    (fun z h => by rw [h] at hobj; cases hobj) hselP hmethM habM hkP hkPi (g := g) hg (argsL := argsL) (rest := rest) (hlen _ hsigM) hstack hdg
  rcases hK m meth c ⟨T.setVm vm₁, locs, cells, slots⟩ { g with stack := rest } (.invokevirtual index) mk (Value.ref b :: argsL).toArray X₁ hg hsize hdg hW (X₁.named hnamed) (hpre vm₁ X₁.warmed) with ⟨v, B, X', hpost, hsteps⟩ | ⟨q, B, X', hpost, hsteps⟩
  · exact Or.inl ⟨v, vm₁, B, X₁.warmed, X', hpost, fun target h => hstep₁ _ fun acts => by rw [doInvoke_state]; exact hsteps.trans h⟩
  · exact Or.inr ⟨q, vm₁, B, X₁.warmed, X', hpost, hstep₁ _ fun acts => by rw [doInvoke_state]; exact hsteps⟩
theorem vx_callS (X : Stand p l e R s m args below meth c T locs cells slots) (hexec : p.tables.exec = Jvm.exec) {own : String} {index : Nat} {y : MethodName} {bytes : ByteArray} {maxL : Nat} {ret : Option FieldType}
    (hown : s.vm.findClass own = some m.cls) (hlink : (Cond.methodLink own index y).before args s = true) (hstat : (Cond.static y).before args s = true) (hinit : (Cond.initialized y.cls).before args s = true)
    (hcode : (Cond.code y bytes maxL ret).before args s = true) (hy : y.cls ≠ "java/lang/invoke/MethodHandle" ∧ y.cls ≠ "java/lang/invoke/VarHandle")
    {W9 : Nat} {Pre : Pt → Array Value → Prop} {Post : Pt → Array Value → Option Value → Pt → Prop} {PostX : Pt → Array Value → Addr → Pt → Prop} (hK : vx_Back l R p e below s args y 3 W9 Pre Post PostX)
    {g : JFrame} (hg : g.method = m) (hsize : g.locals.size = c.maxLocals) {argsL rest : List Value} (hlen : ∀ sig, parseMethodDescriptor y.desc = some sig → argsL.length = sig.parameters.length)
    (hstack : g.stack = argsL.reverse ++ rest) (hW : 2 * g.monitorRoom + (rest.map fun v => v.category).sum ≤ W9) (hdg : decode c.code g.pc = .ok (.invokestatic index, 3))
    (hpre : ∀ vm₁, s.WarmedH vm₁ → Pre ⟨T.setVm vm₁, locs, cells, slots⟩ argsL.toArray) :
    (∃ (v : Option Value) (vm₁ : Vm) (B : Pt), s.WarmedH vm₁ ∧ Stand p l e R s m args below meth c B.U B.locs B.cells B.slots ∧ Post ⟨T.setVm vm₁, locs, cells, slots⟩ argsL.toArray v B ∧
      ∀ target, Steps p.tables e below (B.U.setTop { g with pc := g.pc + 3, stack := v.toList ++ rest }) target → Steps p.tables e below (T.setTop g) target) ∨
    (∃ (q : Addr) (vm₁ : Vm) (B : Pt), s.WarmedH vm₁ ∧ Stand p l e R s m args below meth c B.U B.locs B.cells B.slots ∧ PostX ⟨T.setVm vm₁, locs, cells, slots⟩ argsL.toArray q B ∧
      Steps p.tables e below (T.setTop g) ((B.U.setTop { g with stack := rest }).pushFrame (.throwing q))) := by
  obtain ⟨mk, hnamed⟩ := Cond.code_named hcode
  obtain ⟨methM, cM, hmethM, -, -, -, -, -, -, hsigM⟩ := Cond.code_spec hnamed hcode
  have hstatic : methM.isStatic = true := Cond.static_spec hnamed hmethM hstat
  obtain ⟨kP, hkP, -⟩ := className_of_methodNamed hnamed
  have hinitP : kP.init = .initialized := Cond.initialized_spec (findClass_of_methodNamed hnamed) hkP hinit
  obtain ⟨vm₁, X₁, hstep₁⟩ := X.invokestatic hexec hown hlink hnamed hmethM hstatic hkP hinitP hy (g := g) hg (argsL := argsL) (rest := rest) (hlen _ hsigM) hstack hdg
  rcases hK m meth c ⟨T.setVm vm₁, locs, cells, slots⟩ { g with stack := rest } (.invokestatic index) mk argsL.toArray X₁ hg hsize hdg hW (X₁.named hnamed) (hpre vm₁ X₁.warmed) with ⟨v, B, X', hpost, hsteps⟩ | ⟨q, B, X', hpost, hsteps⟩
  · exact Or.inl ⟨v, vm₁, B, X₁.warmed, X', hpost, fun target h => hstep₁ _ fun acts => by rw [doInvoke_state]; exact hsteps.trans h⟩
  · exact Or.inr ⟨q, vm₁, B, X₁.warmed, X', hpost, hstep₁ _ fun acts => by rw [doInvoke_state]; exact hsteps⟩
end Calls
theorem vx_cls {s : State} {T : State} {vm₁ : Vm} {E : String} {k : ClassId} (hW : s.WarmedH vm₁) (h : (T.setVm vm₁).vm.findClass E = some k) : s.vm.findClass E = some k := by
  have h1 : vm₁.findClass E = some k := h
  rw [hW.alike.findClass] at h1
  exact h1
/-- the method's frame g, with q thrown over it -/
def vx_W (p : Program) (l : Launch) (e : Env) (R : Room) (s : State) (m : MethodId) (args : Array Value) (below : List Frame) (meth : Method) (c : Code) (H : Heap) (locs : List Loc) (cells slots : Nat) (Q : State → Prop) (g : JFrame) (q : Addr) : Prop :=
  ∀ T : State, T.heap = H → Stand p l e R s m args below meth c T locs cells slots → ∃ t, Steps p.tables e below ((T.setTop g).pushFrame (.throwing q)) t ∧ Q t
def vx_Run (p : Program) (l : Launch) (e : Env) (R : Room) (s : State) (m : MethodId) (args : Array Value) (below : List Frame) (meth : Method) (c : Code) (H : Heap) (locs : List Loc) (cells slots mc ms : Nat) (g : JFrame) (rest : List Value) (Qa : State → Outcome → State → Prop) (XC : String → State → State → Prop) (free : Addr → Prop) : Prop :=
  ∀ T : State, T.heap = H → Stand p l e R s m args below meth c T locs cells slots →
    (∃ (v : Option Value) (st₀ t T' : State) (L : List Loc), st₀.heap = H ∧ Stand p l e R s m args below meth c T' (locs ++ L) (cells + mc) (slots + ms) ∧ (∀ q ∈ L, free q.base) ∧ T'.heap = t.heap ∧ T'.vm = t.vm ∧ Qa st₀ (.returned v) t ∧
      Goes p e below T g T' { g with pc := g.pc + 3, stack := v.toList ++ rest }) ∨
    (∃ (q : Addr) (st₀ t T' : State) (L : List Loc) (E : String) (ce : Cell), st₀.heap = H ∧ Stand p l e R s m args below meth c T' (locs ++ L) (cells + mc) (slots + ms) ∧ (∀ z ∈ L, free z.base) ∧ T'.heap = t.heap ∧ T'.vm = t.vm ∧ XC E st₀ t ∧ t.heap[q]? = some ce ∧ ce.vm = .none ∧ s.vm.findClass E = some ce.cls ∧
      Steps p.tables e below (T.setTop g) ((T'.setTop { g with stack := rest }).pushFrame (.throwing q)))
def vx_X {S : Type} (px : S → Prop) (B : String → S → State → Prop) (A : Nat → Prop) : String → State → State → Prop := fun E st t => ∃ u : S, px u ∧ B E u t ∧ va_F A st t
section Runs
variable {p : Program} {l : Launch} {e : Env} {R : Room} {s : State} {m : MethodId} {args : Array Value} {below : List Frame} {meth : Method} {c : Code} {H : Heap} {locs : List Loc} {cells slots : Nat}
variable {y : MethodName} {bytes cc : ByteArray} {maxL nL mc ms n index : Nat} {ret : Option FieldType} {ws : List Cond} {rm : Room} {Pc : Array Value → State → Prop} {Qc : Array Value → State → Outcome → State → Prop} {XC : String → State → State → Prop} {free : Addr → Prop} {Ts : List Cond} {own C : String} {b : Addr} {As rest : List Value} {g : JFrame}
theorem vx_callBack (cb : CallB R s args own index y bytes maxL ret ws rm mc ms n) (hM : vx_Met l y ws rm Pc Qc XC mc ms free) (hbl : FrameBlind Pc) : vx_Back l R p e below s args y 3 8 (PreOf R mc ms Pc) (PostOf Qc mc ms free) (vx_Post XC mc ms free) := by
  obtain ⟨hrc, hrs, hfr, hlo, hws, hcw, -, hini, -⟩ := cb
  exact vx_back (bytes := bytes) (maxL := maxL) (ret := ret) hM hbl hrc hrs hfr hlo hws hcw (fun a' U hW => word_at hW (Or.inl (by first | rfl | simp [Cond.onTables, Cond.keeps, Cond.steady])) hini)
theorem vx_runV (S : CallFix p m c cc nL s args Ts own) (hM : vx_Met l y ws rm Pc Qc XC mc ms free) (cw : CallW R s args own C index y bytes maxL ret ws rm mc ms n) (hp : PreV s H C b Pc As)
    (hg : g.method = m) (hn : As.length = n) (hsize : g.locals.size = nL) (hstack : g.stack = As.reverse ++ .ref b :: rest) (hW : 2 * g.monitorRoom + (rest.map fun v => v.category).sum ≤ 8) (hdg : decode cc g.pc = .ok (.invokevirtual index, 3)) (hf : cells + mc ≤ R.cells ∧ slots + ms ≤ R.slots) :
    vx_Run p l e R s m args below meth c H locs cells slots mc ms g rest (Qc (Value.ref b :: As).toArray) XC free := by
  have hK : vx_Back l R p e below s args y 3 8 (PreOf R mc ms Pc) (PostOf Qc mc ms free) (vx_Post XC mc ms free) := vx_callBack cw.1 hM hp.1
  obtain ⟨⟨-, -, -, -, -, -, hcode, -, hy, hlen, hl⟩, hin, hse⟩ := cw
  obtain ⟨hx, hb, hml, ho, -⟩ := S
  obtain ⟨-, ⟨cellB, hcB, hoB, hclB⟩, hPc⟩ := hp
  intro T hT X
  rcases vx_callV X hx (C := C) (bytes := bytes) (maxL := maxL) (ret := ret) ho hl hin hse hcode hy hK (by rw [hT]; exact hcB) hoB hclB hg (hsize.trans hml.symm) (argsL := As) (rest := rest) (fun sig h => hn.trans (hlen sig h)) hstack hW (by rw [hb]; exact hdg)
    (fun vm₁ hW₁ => ⟨hf.1, hf.2, hPc (T.setVm vm₁) hT hW₁⟩) with ⟨v, vm₁, ⟨U', l2, c2, s2⟩, hW₁, X', ⟨g', mk, t, L, e1, e2, hq, h1, hL, h2, h3⟩, st⟩ | ⟨q, vm₁, ⟨U', l2, c2, s2⟩, hW₁, X', ⟨g', mk, t, L, E, ce, e1, e2, hq, hce, hcv, hcl, h1, hL, h2, h3⟩, st⟩
  · dsimp only [Pt.U, Pt.locs, Pt.cells, Pt.slots] at X' e1 e2 h1 h2 h3 st
    subst h1; subst h2; subst h3
    exact Or.inl ⟨v, (T.setVm vm₁).calling g' mk (Value.ref b :: As).toArray, t, U', L, hT, X', hL, e1, e2, hq, st⟩
  · dsimp only [Pt.U, Pt.locs, Pt.cells, Pt.slots] at X' e1 e2 h1 h2 h3 st hcl
    subst h1; subst h2; subst h3
    exact Or.inr ⟨q, (T.setVm vm₁).calling g' mk (Value.ref b :: As).toArray, t, U', L, E, ce, hT, X', hL, e1, e2, hq, hce, hcv, vx_cls hW₁ hcl, st⟩
theorem vx_runS (S : CallFix p m c cc nL s args Ts own) (hM : vx_Met l y ws rm Pc Qc XC mc ms free) (cw : CallB R s args own index y bytes maxL ret ws rm mc ms n ∧ (Cond.static y).before args s = true) (hp : PreS s H Pc As)
    (hg : g.method = m) (hn : As.length = n) (hsize : g.locals.size = nL) (hstack : g.stack = As.reverse ++ rest) (hW : 2 * g.monitorRoom + (rest.map fun v => v.category).sum ≤ 8) (hdg : decode cc g.pc = .ok (.invokestatic index, 3)) (hf : cells + mc ≤ R.cells ∧ slots + ms ≤ R.slots) :
    vx_Run p l e R s m args below meth c H locs cells slots mc ms g rest (Qc As.toArray) XC free := by
  have hK : vx_Back l R p e below s args y 3 8 (PreOf R mc ms Pc) (PostOf Qc mc ms free) (vx_Post XC mc ms free) := vx_callBack cw.1 hM hp.1
  obtain ⟨⟨-, -, -, -, -, -, hcode, hini, hy, hlen, hl⟩, hstt⟩ := cw
  obtain ⟨hx, hb, hml, ho, -⟩ := S
  intro T hT X
  rcases vx_callS X hx (bytes := bytes) (maxL := maxL) (ret := ret) ho hl hstt hini hcode hy hK hg (hsize.trans hml.symm) (argsL := As) (rest := rest) (fun sig h => hn.trans (hlen sig h)) hstack hW (by rw [hb]; exact hdg)
    (fun vm₁ hW₁ => ⟨hf.1, hf.2, hp.2 (T.setVm vm₁) hT hW₁⟩) with ⟨v, vm₁, ⟨U', l2, c2, s2⟩, hW₁, X', ⟨g', mk, t, L, e1, e2, hq, h1, hL, h2, h3⟩, st⟩ | ⟨q, vm₁, ⟨U', l2, c2, s2⟩, hW₁, X', ⟨g', mk, t, L, E, ce, e1, e2, hq, hce, hcv, hcl, h1, hL, h2, h3⟩, st⟩
  · dsimp only [Pt.U, Pt.locs, Pt.cells, Pt.slots] at X' e1 e2 h1 h2 h3 st
    subst h1; subst h2; subst h3
    exact Or.inl ⟨v, (T.setVm vm₁).calling g' mk As.toArray, t, U', L, hT, X', hL, e1, e2, hq, st⟩
  · dsimp only [Pt.U, Pt.locs, Pt.cells, Pt.slots] at X' e1 e2 h1 h2 h3 st hcl
    subst h1; subst h2; subst h3
    exact Or.inr ⟨q, (T.setVm vm₁).calling g' mk As.toArray, t, U', L, E, ce, hT, X', hL, e1, e2, hq, hce, hcv, vx_cls hW₁ hcl, st⟩
end Runs
section Rows
variable {p : Program} {l : Launch} {e : Env} {R : Room} {s : State} {m : MethodId} {args : Array Value} {below : List Frame} {meth : Method} {c : Code} {H : Heap} {locs : List Loc} {cells slots : Nat} {Q : State → Prop}
variable {mc ms : Nat} {free : Addr → Prop} {A0 A1 : Nat → Prop} {H0 : Heap} {a : Array Value} {pc : Nat} {ls : Array Slot} {st0 rest : List Value}
theorem vx_keep {st₀ t T' : State} {L : List Loc} (h0 : st₀.heap = H) (e1 : T'.heap = t.heap) (hS : va_S A0 H0 H locs) (hA : ∀ q, q < H.size → A1 q → A0 q) (hf : ∀ q, free q → A0 q) (hL : ∀ q ∈ L, free q.base) (hF : va_F A1 st₀ t) :
    H.size ≤ T'.heap.size ∧ (∀ q : Nat, q < H.size → ¬ A1 q → T'.heap[q]? = H[q]?) ∧ va_S A0 H0 T'.heap (locs ++ L) := by
  obtain ⟨hz, hk⟩ := hF
  rw [h0] at hz hk
  exact ⟨by rw [e1]; exact hz, fun q h1 h2 => by rw [e1]; exact hk q h1 h2,
    ⟨Nat.le_trans hS.1 (by rw [e1]; exact hz), fun q h1 h2 => by rw [e1, hk q (Nat.lt_of_lt_of_le h1 hS.1) (fun z => h2 (hA q (Nat.lt_of_lt_of_le h1 hS.1) z))]; exact hS.2.1 q h1 h2, fun q hq => by
      rcases List.mem_append.mp hq with h | h
      · exact hS.2.2 q h
      · exact hf _ (hL q h)⟩⟩
theorem vx_calli {S SX : Type} {post : Int32 → S → Prop} {px : SX → Prop} {B : S → State → Prop} {BX : String → SX → State → Prop} {AX : Nat → Prop} (hr : vx_Run p l e R s m args below meth c H locs cells slots mc ms (F0 m pc ls st0) rest (va_Qi post B A1 a) (vx_X px BX AX) free) (hS : va_S A0 H0 H locs) (hA : ∀ q, q < H.size → A1 q → A0 q) (hf : ∀ q, free q → A0 q) (hAX : ∀ q, q < H.size → AX q → A0 q)
    (kx : ∀ (E : String) (ce : Cell) (q9 : Addr) (u : SX) (t : State) (H1 : Heap) (locs1 : List Loc), t.heap = H1 → s.vm.Alike t.vm → px u → BX E u t → H.size ≤ H1.size → (∀ q : Nat, q < H.size → ¬ AX q → H1[q]? = H[q]?) → va_S A0 H0 H1 locs1 → H1[q9]? = some ce → ce.vm = .none → s.vm.findClass E = some ce.cls → vx_W p l e R s m args below meth c H1 locs1 (cells + mc) (slots + ms) Q (F0 m pc ls rest) q9)
    (kk : ∀ (r : Int32) (u : S) (t : State) (H1 : Heap) (locs1 : List Loc), t.heap = H1 → s.vm.Alike t.vm → post r u → B u t → H.size ≤ H1.size → (∀ q : Nat, q < H.size → ¬ A1 q → H1[q]? = H[q]?) → va_S A0 H0 H1 locs1 → W p l e R s m args below meth c H1 locs1 (cells + mc) (slots + ms) Q (F0 m (pc + 3) ls (.int r :: rest))) : W p l e R s m args below meth c H locs cells slots Q (F0 m pc ls st0) := by
  intro T hT X
  rcases hr T hT X with ⟨v, st₀, t, T', L, h0, X', hL, e1, e2, ⟨⟨r, u, hv, hp, hb⟩, hF⟩, st⟩ | ⟨q, st₀, t, T', L, E, ce, h0, X', hL, e1, e2, ⟨u, hp, hb, hF⟩, hce, hcv, hcl, st⟩
  · cases hv
    obtain ⟨k1, k2, k3⟩ := vx_keep h0 e1 hS hA hf hL hF
    obtain ⟨t2, a1, b1⟩ := kk r u t T'.heap (locs ++ L) e1.symm (by rw [← e2]; exact X'.warmed.alike) hp hb k1 k2 k3 T' rfl X'
    exact ⟨t2, st t2 a1, b1⟩
  · obtain ⟨k1, k2, k3⟩ := vx_keep h0 e1 hS hAX hf hL hF
    obtain ⟨t2, a1, b1⟩ := kx E ce q u t T'.heap (locs ++ L) e1.symm (by rw [← e2]; exact X'.warmed.alike) hp hb k1 k2 k3 (by rw [e1]; exact hce) hcv hcl T' rfl X'
    exact ⟨t2, st.trans a1, b1⟩
theorem vx_calll {S SX : Type} {post : Int64 → S → Prop} {px : SX → Prop} {B : S → State → Prop} {BX : String → SX → State → Prop} {AX : Nat → Prop} (hr : vx_Run p l e R s m args below meth c H locs cells slots mc ms (F0 m pc ls st0) rest (va_Ql post B A1 a) (vx_X px BX AX) free) (hS : va_S A0 H0 H locs) (hA : ∀ q, q < H.size → A1 q → A0 q) (hf : ∀ q, free q → A0 q) (hAX : ∀ q, q < H.size → AX q → A0 q)
    (kx : ∀ (E : String) (ce : Cell) (q9 : Addr) (u : SX) (t : State) (H1 : Heap) (locs1 : List Loc), t.heap = H1 → s.vm.Alike t.vm → px u → BX E u t → H.size ≤ H1.size → (∀ q : Nat, q < H.size → ¬ AX q → H1[q]? = H[q]?) → va_S A0 H0 H1 locs1 → H1[q9]? = some ce → ce.vm = .none → s.vm.findClass E = some ce.cls → vx_W p l e R s m args below meth c H1 locs1 (cells + mc) (slots + ms) Q (F0 m pc ls rest) q9)
    (kk : ∀ (r : Int64) (u : S) (t : State) (H1 : Heap) (locs1 : List Loc), t.heap = H1 → s.vm.Alike t.vm → post r u → B u t → H.size ≤ H1.size → (∀ q : Nat, q < H.size → ¬ A1 q → H1[q]? = H[q]?) → va_S A0 H0 H1 locs1 → W p l e R s m args below meth c H1 locs1 (cells + mc) (slots + ms) Q (F0 m (pc + 3) ls (.long r :: rest))) : W p l e R s m args below meth c H locs cells slots Q (F0 m pc ls st0) := by
  intro T hT X
  rcases hr T hT X with ⟨v, st₀, t, T', L, h0, X', hL, e1, e2, ⟨⟨r, u, hv, hp, hb⟩, hF⟩, st⟩ | ⟨q, st₀, t, T', L, E, ce, h0, X', hL, e1, e2, ⟨u, hp, hb, hF⟩, hce, hcv, hcl, st⟩
  · cases hv
    obtain ⟨k1, k2, k3⟩ := vx_keep h0 e1 hS hA hf hL hF
    obtain ⟨t2, a1, b1⟩ := kk r u t T'.heap (locs ++ L) e1.symm (by rw [← e2]; exact X'.warmed.alike) hp hb k1 k2 k3 T' rfl X'
    exact ⟨t2, st t2 a1, b1⟩
  · obtain ⟨k1, k2, k3⟩ := vx_keep h0 e1 hS hAX hf hL hF
    obtain ⟨t2, a1, b1⟩ := kx E ce q u t T'.heap (locs ++ L) e1.symm (by rw [← e2]; exact X'.warmed.alike) hp hb k1 k2 k3 (by rw [e1]; exact hce) hcv hcl T' rfl X'
    exact ⟨t2, st.trans a1, b1⟩
theorem vx_callf {S SX : Type} {post : UInt32 → S → Prop} {px : SX → Prop} {B : S → State → Prop} {BX : String → SX → State → Prop} {AX : Nat → Prop} (hr : vx_Run p l e R s m args below meth c H locs cells slots mc ms (F0 m pc ls st0) rest (va_Qf post B A1 a) (vx_X px BX AX) free) (hS : va_S A0 H0 H locs) (hA : ∀ q, q < H.size → A1 q → A0 q) (hf : ∀ q, free q → A0 q) (hAX : ∀ q, q < H.size → AX q → A0 q)
    (kx : ∀ (E : String) (ce : Cell) (q9 : Addr) (u : SX) (t : State) (H1 : Heap) (locs1 : List Loc), t.heap = H1 → s.vm.Alike t.vm → px u → BX E u t → H.size ≤ H1.size → (∀ q : Nat, q < H.size → ¬ AX q → H1[q]? = H[q]?) → va_S A0 H0 H1 locs1 → H1[q9]? = some ce → ce.vm = .none → s.vm.findClass E = some ce.cls → vx_W p l e R s m args below meth c H1 locs1 (cells + mc) (slots + ms) Q (F0 m pc ls rest) q9)
    (kk : ∀ (r : UInt32) (u : S) (t : State) (H1 : Heap) (locs1 : List Loc), t.heap = H1 → s.vm.Alike t.vm → post r u → B u t → H.size ≤ H1.size → (∀ q : Nat, q < H.size → ¬ A1 q → H1[q]? = H[q]?) → va_S A0 H0 H1 locs1 → W p l e R s m args below meth c H1 locs1 (cells + mc) (slots + ms) Q (F0 m (pc + 3) ls (.float r :: rest))) : W p l e R s m args below meth c H locs cells slots Q (F0 m pc ls st0) := by
  intro T hT X
  rcases hr T hT X with ⟨v, st₀, t, T', L, h0, X', hL, e1, e2, ⟨⟨r, u, hv, hp, hb⟩, hF⟩, st⟩ | ⟨q, st₀, t, T', L, E, ce, h0, X', hL, e1, e2, ⟨u, hp, hb, hF⟩, hce, hcv, hcl, st⟩
  · cases hv
    obtain ⟨k1, k2, k3⟩ := vx_keep h0 e1 hS hA hf hL hF
    obtain ⟨t2, a1, b1⟩ := kk r u t T'.heap (locs ++ L) e1.symm (by rw [← e2]; exact X'.warmed.alike) hp hb k1 k2 k3 T' rfl X'
    exact ⟨t2, st t2 a1, b1⟩
  · obtain ⟨k1, k2, k3⟩ := vx_keep h0 e1 hS hAX hf hL hF
    obtain ⟨t2, a1, b1⟩ := kx E ce q u t T'.heap (locs ++ L) e1.symm (by rw [← e2]; exact X'.warmed.alike) hp hb k1 k2 k3 (by rw [e1]; exact hce) hcv hcl T' rfl X'
    exact ⟨t2, st.trans a1, b1⟩
theorem vx_calld {S SX : Type} {post : UInt64 → S → Prop} {px : SX → Prop} {B : S → State → Prop} {BX : String → SX → State → Prop} {AX : Nat → Prop} (hr : vx_Run p l e R s m args below meth c H locs cells slots mc ms (F0 m pc ls st0) rest (va_Qd post B A1 a) (vx_X px BX AX) free) (hS : va_S A0 H0 H locs) (hA : ∀ q, q < H.size → A1 q → A0 q) (hf : ∀ q, free q → A0 q) (hAX : ∀ q, q < H.size → AX q → A0 q)
    (kx : ∀ (E : String) (ce : Cell) (q9 : Addr) (u : SX) (t : State) (H1 : Heap) (locs1 : List Loc), t.heap = H1 → s.vm.Alike t.vm → px u → BX E u t → H.size ≤ H1.size → (∀ q : Nat, q < H.size → ¬ AX q → H1[q]? = H[q]?) → va_S A0 H0 H1 locs1 → H1[q9]? = some ce → ce.vm = .none → s.vm.findClass E = some ce.cls → vx_W p l e R s m args below meth c H1 locs1 (cells + mc) (slots + ms) Q (F0 m pc ls rest) q9)
    (kk : ∀ (r : UInt64) (u : S) (t : State) (H1 : Heap) (locs1 : List Loc), t.heap = H1 → s.vm.Alike t.vm → post r u → B u t → H.size ≤ H1.size → (∀ q : Nat, q < H.size → ¬ A1 q → H1[q]? = H[q]?) → va_S A0 H0 H1 locs1 → W p l e R s m args below meth c H1 locs1 (cells + mc) (slots + ms) Q (F0 m (pc + 3) ls (.double r :: rest))) : W p l e R s m args below meth c H locs cells slots Q (F0 m pc ls st0) := by
  intro T hT X
  rcases hr T hT X with ⟨v, st₀, t, T', L, h0, X', hL, e1, e2, ⟨⟨r, u, hv, hp, hb⟩, hF⟩, st⟩ | ⟨q, st₀, t, T', L, E, ce, h0, X', hL, e1, e2, ⟨u, hp, hb, hF⟩, hce, hcv, hcl, st⟩
  · cases hv
    obtain ⟨k1, k2, k3⟩ := vx_keep h0 e1 hS hA hf hL hF
    obtain ⟨t2, a1, b1⟩ := kk r u t T'.heap (locs ++ L) e1.symm (by rw [← e2]; exact X'.warmed.alike) hp hb k1 k2 k3 T' rfl X'
    exact ⟨t2, st t2 a1, b1⟩
  · obtain ⟨k1, k2, k3⟩ := vx_keep h0 e1 hS hAX hf hL hF
    obtain ⟨t2, a1, b1⟩ := kx E ce q u t T'.heap (locs ++ L) e1.symm (by rw [← e2]; exact X'.warmed.alike) hp hb k1 k2 k3 (by rw [e1]; exact hce) hcv hcl T' rfl X'
    exact ⟨t2, st.trans a1, b1⟩
theorem vx_callv {S SX : Type} {post : S → Prop} {px : SX → Prop} {B : S → State → Prop} {BX : String → SX → State → Prop} {AX : Nat → Prop} (hr : vx_Run p l e R s m args below meth c H locs cells slots mc ms (F0 m pc ls st0) rest (va_Qv post B A1 a) (vx_X px BX AX) free) (hS : va_S A0 H0 H locs) (hA : ∀ q, q < H.size → A1 q → A0 q) (hf : ∀ q, free q → A0 q) (hAX : ∀ q, q < H.size → AX q → A0 q)
    (kx : ∀ (E : String) (ce : Cell) (q9 : Addr) (u : SX) (t : State) (H1 : Heap) (locs1 : List Loc), t.heap = H1 → s.vm.Alike t.vm → px u → BX E u t → H.size ≤ H1.size → (∀ q : Nat, q < H.size → ¬ AX q → H1[q]? = H[q]?) → va_S A0 H0 H1 locs1 → H1[q9]? = some ce → ce.vm = .none → s.vm.findClass E = some ce.cls → vx_W p l e R s m args below meth c H1 locs1 (cells + mc) (slots + ms) Q (F0 m pc ls rest) q9)
    (kk : ∀ (u : S) (t : State) (H1 : Heap) (locs1 : List Loc), t.heap = H1 → s.vm.Alike t.vm → post u → B u t → H.size ≤ H1.size → (∀ q : Nat, q < H.size → ¬ A1 q → H1[q]? = H[q]?) → va_S A0 H0 H1 locs1 → W p l e R s m args below meth c H1 locs1 (cells + mc) (slots + ms) Q (F0 m (pc + 3) ls (rest))) : W p l e R s m args below meth c H locs cells slots Q (F0 m pc ls st0) := by
  intro T hT X
  rcases hr T hT X with ⟨v, st₀, t, T', L, h0, X', hL, e1, e2, ⟨⟨u, hv, hp, hb⟩, hF⟩, st⟩ | ⟨q, st₀, t, T', L, E, ce, h0, X', hL, e1, e2, ⟨u, hp, hb, hF⟩, hce, hcv, hcl, st⟩
  · cases hv
    obtain ⟨k1, k2, k3⟩ := vx_keep h0 e1 hS hA hf hL hF
    obtain ⟨t2, a1, b1⟩ := kk u t T'.heap (locs ++ L) e1.symm (by rw [← e2]; exact X'.warmed.alike) hp hb k1 k2 k3 T' rfl X'
    exact ⟨t2, st t2 a1, b1⟩
  · obtain ⟨k1, k2, k3⟩ := vx_keep h0 e1 hS hAX hf hL hF
    obtain ⟨t2, a1, b1⟩ := kx E ce q u t T'.heap (locs ++ L) e1.symm (by rw [← e2]; exact X'.warmed.alike) hp hb k1 k2 k3 (by rw [e1]; exact hce) hcv hcl T' rfl X'
    exact ⟨t2, st.trans a1, b1⟩
/-- caught by the row x of this method's table; the rows ahead don't take it -/
theorem vx_catch {own name : String} {E : String} {ce : Cell} {q : Addr} (hown : s.vm.findClass own = some m.cls) (pre : List ExceptionTableEntry) (x : ExceptionTableEntry) (suf : List ExceptionTableEntry) (hsplit : c.exceptionTable.toList = pre ++ x :: suf)
    (hpass : ∀ z ∈ pre, covers z pc = false ∨ (z.catchType ≠ 0 ∧ ∃ nm : String, (Cond.classLink own z.catchType nm).before args s = true ∧ va_Nc E nm s)) (hx : covers x pc = true) (h0 : x.catchType ≠ 0)
    (hlink : (Cond.classLink own x.catchType name).before args s = true) (hcast : (Cond.castable E name).before args s = true) (hcell : H[q]? = some ce) (hv : ce.vm = .none) (hcl : s.vm.findClass E = some ce.cls)
    (kk : W p l e R s m args below meth c H locs cells slots Q (F0 m x.handlerPc ls [.ref q])) : vx_W p l e R s m args below meth c H locs cells slots Q (F0 m pc ls rest) q := by
  intro T hT X
  have hpl : e.platform.magicAccessors = ({} : Platform).magicAccessors := by rw [X.admits.platform]
  obtain ⟨c3, c4, hc3, hc4, hasg⟩ := Cond.castable_spec hcast
  cases Option.some.inj (hc3.symm.trans hcl)
  obtain ⟨c5, hc5, hcl5⟩ := Cond.classLink_spec hown hlink e.platform hpl
  cases Option.some.inj (hc4.symm.trans hc5)
  obtain ⟨vm', X', st⟩ := X.thenCaughtThrough q (g := F0 m pc ls rest) rfl (Steps.refl _) (by rw [hT]; exact hcell) (by rw [hv]; rfl) (by obtain ⟨k9, h9, -⟩ := Vm.findClass_spec hcl; exact ⟨k9, h9⟩) pre x suf hsplit
    (fun z hz => by
      rcases hpass z hz with h | ⟨hz0, nm, hl1, hn1⟩
      · exact Or.inl h
      · obtain ⟨c6, hc6, hcl6⟩ := Cond.classLink_spec hown hl1 e.platform hpl
        obtain ⟨a8, b8, h1, h2, h3⟩ := hn1
        cases Option.some.inj (h1.symm.trans hcl)
        cases Option.some.inj (h2.symm.trans hc6)
        exact Or.inr ⟨hz0, _, hcl6, h3⟩) hx (Or.inr ⟨h0, c4, hcl5, hasg⟩)
  obtain ⟨t, a1, b1⟩ := kk (T.setVm vm') hT X'
  exact ⟨t, st.trans a1, b1⟩
end Rows
section Ends
variable {p : Program} {l : Launch} {e : Env} {R : Room} {s : State} {m : MethodId} {args : Array Value} {below : List Frame} {meth : Method} {c : Code} {H : Heap} {locs : List Loc} {cells slots : Nat} {Q : State → Prop}
variable {mc ms : Nat} {free : Addr → Prop} {A0 A1 : Nat → Prop} {H0 : Heap} {a : Array Value} {ls : Array Slot} {st0 rest : List Value}
variable {Qc : Array Value → State → Outcome → State → Prop} {XC : String → State → State → Prop}
/-- what a body that may throw owes at its end -/
def vx_MQ (below : List Frame) (Qc : Array Value → State → Outcome → State → Prop) (XC : String → State → State → Prop) (a : Array Value) (s : State) (mc ms : Nat) (free : Addr → Prop) : State → Prop := fun t =>
  ∃ o, t.status = .running ∧ Ended t below o ∧ vx_Q Qc XC mc ms free a s o t
theorem vx_ret {g : JFrame} {mc ms : Nat} (k : W p l e R s m args below meth c H locs cells slots (MQ below Qc args s mc ms free) g) : W p l e R s m args below meth c H locs cells slots (vx_MQ below Qc XC args s mc ms free) g := by
  intro T hT X
  obtain ⟨t, a1, o, b1, b2, b3, b4⟩ := k T hT X
  exact ⟨t, a1, o, b1, b2, Or.inl ⟨b3, b4⟩⟩
/-- not caught here: it goes on to the caller -/
theorem vx_widen {g : JFrame} {q : Addr} {k n : Nat} (h1 : cells ≤ k) (h2 : slots ≤ n) (kk : vx_W p l e R s m args below meth c H locs k n Q g q) : vx_W p l e R s m args below meth c H locs cells slots Q g q := fun T hT X => kk T hT (stand_widen X h1 h2)
theorem vx_out {pc : Nat} {E : String} {ce : Cell} {q : Addr} {mc ms : Nat} (hout : ∀ x ∈ c.exceptionTable.toList, covers x pc = false) (hlocks : meth.locks = false) (hcell : H[q]? = some ce) (hv : ce.vm = .none) (hcl : s.vm.findClass E = some ce.cls)
    (hx : ∀ t : State, t.heap = H → s.vm.Alike t.vm → XC E s t) (hf : ∀ z ∈ locs, free z.base) (hc : cells ≤ mc) (hs : slots ≤ ms) :
    vx_W p l e R s m args below meth c H locs cells slots (vx_MQ below Qc XC args s mc ms free) (F0 m pc ls rest) q := by
  intro T hT X
  obtain ⟨st1, hrun, hend, hW, hsm⟩ := X.leaveThrown q (g := F0 m pc ls rest) rfl rfl rfl hout hlocks
  have hcell9 : (T.setFrames (.throwing q :: below)).heap[q]? = some ce := by
    show T.heap[q]? = some ce
    rw [hT]; exact hcell
  exact ⟨_, st1, .threw q, hrun, hend, Or.inr ⟨q, rfl, E, ce, locs, hx _ hT hW.alike, hcell9, hv, hcl, hW, hsm.mono hc hs, hf⟩⟩
theorem vx_frame {U : State} {k n : Nat} (h : s.sameButNew ({ U with vm := s.vm } : State) locs k n) : s.heap.size ≤ U.heap.size ∧ ∀ q : Nat, q < s.heap.size → (∀ z ∈ locs, z.base ≠ q) → U.heap[q]? = s.heap[q]? := by
  obtain ⟨-, h2, -, -, -, h6⟩ := h
  refine ⟨h2, fun q hq hz => ?_⟩
  obtain ⟨c9, e1, e2, e3, e4⟩ := h6 q _ (Array.getElem?_eq_getElem hq)
  have hs : c9.slots = (s.heap[q]).slots := Array.ext_getElem? fun i => e4 i fun hm => hz _ hm rfl
  have h9 : c9 = s.heap[q] := by
    rw [hs] at e2
    exact e2
  have e5 : U.heap[q]? = some c9 := e1
  rw [e5, h9, Array.getElem?_eq_getElem hq]
/-- the words of a throw but the four that speak of the heap -/
def vx_no (w : Cond) : Bool := decide (w ≠ .isRef (.static Bundle.tN "UNASSIGNED_STACK" Bundle.steD)) && decide (w ≠ .isRef (.static Bundle.tN "SUPPRESSED_SENTINEL" Bundle.listD)) && decide (w ≠ .laysStatic Bundle.tN "UNASSIGNED_STACK" Bundle.steD) && decide (w ≠ .laysStatic Bundle.tN "SUPPRESSED_SENTINEL" Bundle.listD)
def vx_at0 (own : String) (ic : Nat) (X : String) (names : List String) : List Cond := (Bundle.ownAtoms0 own ic X names).filter vx_no
def vx_atS (own : String) (ic : Nat) (X : String) (names : List String) : List Cond := (Bundle.ownAtoms own ic X names).filter vx_no
/-- a word that the tables alone decide, or a good one -/
def vx_ot (w : Cond) : Bool := w.onTables || goodWord w
theorem vx_ot_at {args a' : Array Value} {s U : State} {w : Cond} (hW : s.WarmedH U.vm) (hvm : s.vm = U.vm) (hg : vx_ot w = true) (h : w.before args s = true) : w.before a' U = true := by
  simp only [vx_ot, Bool.or_eq_true] at hg
  rcases hg with hg | hg
  · exact va_tabs hg hvm h
  · exact word_at hW (good_of_word hg) h
/-- a list's words: the good ones out of the method's own list, the others by premises of their own -/
theorem vx_hat {args : Array Value} {s : State} {L B : List Cond} (h1 : ∀ w ∈ L.filter goodWord, w.before args s = true) (h2 : ∀ w ∈ L.filter (fun w => !goodWord w), w ∈ B) (h3 : ∀ w ∈ B, w.before args s = true) : ∀ w ∈ L, w.before args s = true := by
  intro w hw
  by_cases g : goodWord w = true
  · exact h1 w (List.mem_filter.mpr ⟨hw, g⟩)
  · refine h3 w (h2 w (List.mem_filter.mpr ⟨hw, ?_⟩))
    show (!goodWord w) = true
    cases hgw : goodWord w
    · rfl
    · exact absurd hgw g
theorem vx_c {args : Array Value} {s : State} {w : Cond} {B : List Cond} (h : w.before args s = true) (t : ∀ w ∈ B, w.before args s = true) : ∀ w' ∈ w :: B, w'.before args s = true := fun w' h' => (List.mem_cons.mp h').elim (fun e => by rw [e]; exact h) (t w')
theorem vx_n {args : Array Value} {s : State} : ∀ w ∈ ([] : List Cond), w.before args s = true := fun _ h => nomatch h
theorem vx_own {args : Array Value} {s : State} {L : List Cond} (h1 : ∀ w ∈ L.filter vx_no, w.before args s = true)
    (hU : (Cond.isRef (.static Bundle.tN "UNASSIGNED_STACK" Bundle.steD)).before args s = true) (hN : (Cond.isRef (.static Bundle.tN "SUPPRESSED_SENTINEL" Bundle.listD)).before args s = true)
    (lU : (Cond.laysStatic Bundle.tN "UNASSIGNED_STACK" Bundle.steD).before args s = true) (lN : (Cond.laysStatic Bundle.tN "SUPPRESSED_SENTINEL" Bundle.listD).before args s = true) : ∀ w ∈ L, w.before args s = true := by
  intro w hw
  by_cases e1 : w = .isRef (.static Bundle.tN "UNASSIGNED_STACK" Bundle.steD)
  · rw [e1]; exact hU
  · by_cases e2 : w = .isRef (.static Bundle.tN "SUPPRESSED_SENTINEL" Bundle.listD)
    · rw [e2]; exact hN
    · by_cases e3 : w = .laysStatic Bundle.tN "UNASSIGNED_STACK" Bundle.steD
      · rw [e3]; exact lU
      · by_cases e4 : w = .laysStatic Bundle.tN "SUPPRESSED_SENTINEL" Bundle.listD
        · rw [e4]; exact lN
        · exact h1 w (List.mem_filter.mpr ⟨hw, by unfold vx_no; rw [decide_eq_true e1, decide_eq_true e2, decide_eq_true e3, decide_eq_true e4]; rfl⟩)
/-- where a static field lies, its class's statics cell in H -/
def vx_L (C n d : String) (A : Nat → Prop) (U : State) (H : Heap) : Prop := ∃ (c : ClassId) (k : Class) (i : Nat) (f : Field) (a : Nat) (cell : Cell), U.vm.findClass C = some c ∧ U.fieldFound? C n d = some (c, k, i, f) ∧ f.isStatic = true ∧ k.statics = some a ∧ H[a]? = some cell ∧ cell.vm.isStatics = true ∧ cell.cls = c ∧ f.slot < cell.slots.size ∧ k.staticTypes[f.slot]? = some f.type ∧ ¬ A a
theorem vx_L.moved {C n d : String} {A : Nat → Prop} {u U : State} {H : Heap} (hvm : u.vm.Alike U.vm) (h : vx_L C n d A u H) : vx_L C n d A U H := by
  obtain ⟨c, k, i, f, a, cell, h1, h2, h3, h4, h5, h6, h7, h8, h9, h10⟩ := h
  obtain ⟨k', hi', he⟩ := State.fieldFound?_setVm hvm h2
  exact ⟨c, k', i, f, a, cell, by rw [hvm.findClass]; exact h1, hi', h3, by rw [he]; exact h4, h5, h6, h7, h8, by rw [he]; exact h9, h10⟩
theorem vx_L.kept {C n d : String} {A : Nat → Prop} {U : State} {H H1 : Heap} (h : vx_L C n d A U H) (hq : ∀ a : Nat, a < H.size → ¬ A a → H1[a]? = H[a]?) : vx_L C n d A U H1 := by
  obtain ⟨c, k, i, f, a, cell, h1, h2, h3, h4, h5, h6, h7, h8, h9, h10⟩ := h
  exact ⟨c, k, i, f, a, cell, h1, h2, h3, h4, by rw [hq a (Array.getElem?_eq_some_iff.mp h5).1 h10]; exact h5, h6, h7, h8, h9, h10⟩
theorem vx_L.narrow {C n d : String} {A B : Nat → Prop} {U : State} {H : Heap} (h : vx_L C n d A U H) (hAB : ∀ q, B q → A q) : vx_L C n d B U H := by
  obtain ⟨c, k, i, f, a, cell, h1, h2, h3, h4, h5, h6, h7, h8, h9, h10⟩ := h
  exact ⟨c, k, i, f, a, cell, h1, h2, h3, h4, h5, h6, h7, h8, h9, fun z => h10 (hAB _ z)⟩
theorem vx_L.word {C n d : String} {A : Nat → Prop} {s : State} {args : Array Value} (h : vx_L C n d A s s.heap) : (Cond.laysStatic C n d).before args s = true := by
  obtain ⟨c, k, i, f, a, cell, h1, h2, h3, h4, h5, h6, h7, h8, h9, -⟩ := h
  show (Cond.laysStatic C n d).holds args s none s [] = true
  exact Cond.laysStatic_of h1 h2 h3 h4 h5 h6 h7 h8 h9
/-- .. and what it holds: null or some reference -/
def vx_Zq (C n d : String) (A : Nat → Prop) (U : State) (H : Heap) : Prop := va_Zq C n d A U H ∧ vx_L C n d A U H
theorem vx_Zq.moved {C n d : String} {A : Nat → Prop} {u U : State} {H : Heap} (hvm : u.vm.Alike U.vm) (h : vx_Zq C n d A u H) : vx_Zq C n d A U H := ⟨va_Zq.moved hvm h.1, vx_L.moved hvm h.2⟩
theorem vx_Zq.kept {C n d : String} {A : Nat → Prop} {U : State} {H H1 : Heap} (h : vx_Zq C n d A U H) (hq : ∀ a : Nat, a < H.size → ¬ A a → H1[a]? = H[a]?) : vx_Zq C n d A U H1 := ⟨va_Zq.kept h.1 hq, vx_L.kept h.2 hq⟩
theorem vx_Zq.narrow {C n d : String} {A B : Nat → Prop} {U : State} {H : Heap} (h : vx_Zq C n d A U H) (hAB : ∀ q, B q → A q) : vx_Zq C n d B U H := ⟨va_Zq.narrow h.1 hAB, vx_L.narrow h.2 hAB⟩
theorem vx_Zqof {args : Array Value} {s : State} {C n d : String} {A : Nat → Prop} (hl : (Cond.laysStatic C n d).before args s = true) (hini : (Cond.initialized C).before args s = true) (h : (Cond.isRef (.static C n d)).before args s = true) (hA : ∀ a : Nat, a < s.heap.size → ¬ A a) : vx_Zq C n d A s s.heap := by
  refine ⟨va_Zqof hl hini h hA, ?_⟩
  obtain ⟨c, k, i, f, a, cell, h1, h2, h3, h4, h5, h6, h7, h8, h9⟩ := Cond.laysStatic_spec hl
  exact ⟨c, k, i, f, a, cell, h1, h2, h3, h4, h5, h6, h7, h8, h9, hA a (Array.getElem?_eq_some_iff.mp h5).1⟩
theorem vx_isRef {C n d : String} {v : Value} {A : Nat → Prop} {s : State} {args : Array Value} (h : va_Z C n d v A s s.heap) (hv : v.isRef = true) : (Cond.isRef (.static C n d)).before args s = true := by
  obtain ⟨cf, kf, fi, f, a, cell, h1, h2, h3, h4, h5, h6, h7, -⟩ := h
  have he : (Term.static C n d).eval args s none [] s = some v := by
    simp [Term.eval, State.fieldNamed?, h1, h2, h4, h5, h6, h7]
  simp only [Cond.before, Cond.holds, Cond.value, he]
  cases v <;> simp_all [Value.isRef]
theorem vx_isRefq {C n d : String} {A : Nat → Prop} {s : State} {args : Array Value} (h : va_Zq C n d A s s.heap) : (Cond.isRef (.static C n d)).before args s = true := by
  rcases h with h | ⟨t, h⟩
  · exact vx_isRef h rfl
  · exact vx_isRef h rfl
/-- the same frame, seen from here: as if the method were called anew in this heap -/
theorem vx_rebase {T : State} (X : Stand p l e R s m args below meth c T locs cells slots) {R' : Room} (hf : R'.frames ≤ R.frames) (hl : R'.locals ≤ R.locals) (hc : cells + R'.cells ≤ R.cells) (hs : slots + R'.slots ≤ R.slots) :
    Stand p l e R' ((T.setVm s.vm).setFrames (.invoking m args :: below)) m args below meth c T [] 0 0 := by
  have htop : (T.setVm s.vm).topJava?.isSome := X.here.top
  have hF : ((T.setVm s.vm).setFrames (.invoking m args :: below)).frames = .invoking m args :: below := State.frames_setFrames _ (State.cur_lt_of_top htop)
  obtain ⟨g₀, hg0⟩ := Option.isSome_iff_exists.mp htop
  obtain ⟨r, hr⟩ := State.topJava?_eq_some.mp hg0
  have hl9 : e.platform.stackLimits (T.setVm s.vm).me = e.platform.stackLimits s.me := X.limits
  have hb9 : (T.setVm s.vm).me.stackBytes = s.me.stackBytes := X.bytes
  refine ⟨X.admits, X.cas, X.clock, hF, ?_, X.hears, X.method, X.code, X.here, X.tail, X.warmed, ?_, ?_, ?_⟩
  · have h := X.room
    have hU : ((T.setVm s.vm).setFrames (.invoking m args :: below)).localsInUse = s.localsInUse := by
      rw [State.localsInUse_invoking hF (meth := meth) (c := c) X.method X.code, State.localsInUse_invoking X.frames X.method X.code]
    simp only [State.hasRoom, Bool.and_eq_true, decide_eq_true_eq] at h ⊢
    obtain ⟨⟨⟨⟨h1, h2, h3, h4, h5, h6⟩, h7⟩, h8⟩, h9⟩ := h
    rw [X.frames, List.length_cons] at h2 h3
    have q1 := X.heapSize
    have q2 := X.used
    simp only [hF, hU, List.length_cons, State.stackLimits_setFrames, State.stackBytes_setFrames, hl9, hb9]
    refine ⟨⟨⟨⟨by omega, by omega, by omega, by omega, by omega, h6⟩, ?_⟩, ?_⟩, X.book⟩
    · show T.heap.size + R'.cells ≤ e.platform.maxCells
      omega
    · show T.slotsUsed + R'.slots ≤ e.platform.maxSlots
      omega
  · rw [State.stackLimits_setFrames]; rfl
  · rw [State.stackBytes_setFrames]; rfl
  · refine ⟨?_, Nat.le_refl _, Nat.le_refl _, ?_, ?_, fun a c9 h9 => ⟨c9, h9, rfl, rfl, fun _ _ => rfl⟩⟩
    · obtain ⟨t, ht, -⟩ := State.frames_cons hr
      show T.setVm s.vm = { ((T.setVm s.vm).setFrames (.invoking m args :: below)).setFrames (T.setVm s.vm).frames with heap := T.heap, slotsUsed := T.slotsUsed }
      rw [State.setFrames_setFrames, State.setFrames_self ht]
      rfl
    · show T.slotsUsed = T.slotsUsed + ((T.heap.toList.drop T.heap.size).map (·.slots.size)).sum
      rw [List.drop_eq_nil_of_le (Nat.le_of_eq Array.length_toList)]
      rfl
    · show ((T.heap.toList.drop T.heap.size).map (·.slots.size)).sum ≤ 0
      rw [List.drop_eq_nil_of_le (Nat.le_of_eq Array.length_toList)]
      exact Nat.le_refl _
/-- 'throw new E()': new; dup; invokespecial; athrow -/
theorem vx_throw0 {cc : ByteArray} {pc : Nat} (hexec : p.tables.exec = Jvm.exec) (hb : c.code = cc) (hl : l.stackTraces = false) {own cls : String} {names : List String} {ik ic mc ms : Nat} {A : Nat → Prop}
    (hown : s.vm.findClass own = some m.cls) (hcls : Bundle.fit cls = true) (hnames : ∀ n ∈ names, Bundle.fit n = true)
    (hk : (Cond.classLink own ik cls).before args s = true) (hini : (Cond.initialized cls).before args s = true) (hat : ∀ w ∈ vx_at0 own ic cls names, w.before args s = true)
    (hgood : ∀ w ∈ Cond.classLink own ik cls :: Cond.initialized cls :: vx_at0 own ic cls names, vx_ot w = true)
    (hU : vx_Zq Bundle.tN "UNASSIGNED_STACK" Bundle.steD A s s.heap) (hN : vx_Zq Bundle.tN "SUPPRESSED_SENTINEL" Bundle.listD A s s.heap) (hS : va_S A s.heap H locs) (hsize : ls.size = c.maxLocals)
    (d0 : decode cc pc = .ok (.new ik, 3)) (d3 : decode cc (pc + 3) = .ok (.dup, 1)) (d4 : decode cc (pc + 4) = .ok (.invokespecial ic, 3)) (d7 : decode cc (pc + 7) = .ok (.athrow, 1))
    (hout : ∀ x ∈ c.exceptionTable.toList, covers x (pc + 7) = false)
    (hRframes : names.length + 3 < R.frames) (hRlocals : (rest.map fun v => v.category).sum + (13 * (names.length + 1) + 42) ≤ R.locals) (hRcells : cells + 1 ≤ R.cells) (hRslots : slots + 6 ≤ R.slots) (hlocks : meth.locks = false)
    (hx : ∀ t : State, s.vm.Alike t.vm → H.size ≤ t.heap.size → (∀ q : Nat, q < H.size → t.heap[q]? = H[q]?) → XC cls s t)
    (hf : ∀ z ∈ locs, free z.base) (hc : cells + 1 ≤ mc) (hs : slots + 6 ≤ ms) :
    W p l e R s m args below meth c H locs cells slots (vx_MQ below Qc XC args s mc ms free) (F0 m pc ls rest) := by
  intro T hT X
  have htr : e.platform.stackTraces = false := (show e.platform.stackTraces = l.stackTraces by rw [X.admits.platform]).trans hl
  have Y := vx_rebase X (R' := { frames := R.frames, locals := R.locals, cells := 1, slots := 6 }) (Nat.le_refl _) (Nat.le_refl _) hRcells hRslots
  obtain ⟨s', hA⟩ : ∃ z, z = (T.setVm s.vm).setFrames (.invoking m args :: below) := ⟨_, rfl⟩
  rw [← hA] at Y
  have hvm : s'.vm = s.vm := by rw [hA]; rfl
  have hhp : s'.heap = H := by rw [hA]; exact hT
  have hW0 : s.WarmedH s'.vm := by rw [hvm]; exact State.WarmedH.refl s
  have hat' : ∀ w ∈ vx_at0 own ic cls names, w.before args s' = true := fun w hw => vx_ot_at hW0 hvm.symm (hgood w (List.mem_cons_of_mem _ (List.mem_cons_of_mem _ hw))) (hat w hw)
  have hk' : (Cond.classLink own ik cls).before args s' = true := vx_ot_at hW0 hvm.symm (hgood _ List.mem_cons_self) hk
  have hini' : (Cond.initialized cls).before args s' = true := vx_ot_at hW0 hvm.symm (hgood _ (List.mem_cons_of_mem _ List.mem_cons_self)) hini
  have hU' : vx_Zq Bundle.tN "UNASSIGNED_STACK" Bundle.steD A s' s'.heap := by rw [hhp]; exact vx_Zq.moved hW0.alike (hU.kept hS.2.1)
  have hN' : vx_Zq Bundle.tN "SUPPRESSED_SENTINEL" Bundle.listD A s' s'.heap := by rw [hhp]; exact vx_Zq.moved hW0.alike (hN.kept hS.2.1)
  have h : ∀ w ∈ Bundle.ownAtoms0 own ic cls names, w.before args s' = true := vx_own hat' (vx_isRefq hU'.1) (vx_isRefq hN'.1) hU'.2.word hN'.2.word
  have hown' : s'.vm.findClass own = some m.cls := by rw [hvm]; exact hown
  have hins : (Cond.instantiable cls 6).before args s' = true := h _ (by simp [Bundle.ownAtoms0])
  obtain ⟨vm₁, cX, kX, hfX, hkX, -, -, X₁, st1⟩ := Y.newCold hexec (own := own) (C := cls) (index := ik) (n := 6) hown' hk' hins hini'
    (g := F0 m pc ls rest) rfl (by rw [hb]; exact d0) (Nat.le_refl _) (Nat.le_refl _)
  generalize hT1 : (T.setVm vm₁).pushCell { cls := cX, slots := kX.instanceTypes.map defaultValue, vm := .none } = T1 at X₁ st1
  have hcat : (Value.ref T.heap.size).category = 1 := rfl
  have hcellA : T1.heap[T.heap.size]? = some (freshCell cX kX) := by rw [← hT1]; exact State.heap_pushCell_size _ _
  have d3' : decode c.code (pc + 3) = .ok (.dup, 1) := by rw [hb]; exact d3
  obtain ⟨U, hsteps, hrun, hend, hW, hsame, ce, hce, hO⟩ := X₁.ctorThrow0 hexec htr (own := own) (cls := cls) (names := names) (ic := ic) hown' hcls hnames h (fun x hx => nomatch hx) hfX hkX hcellA (by rw [hhp, hT]; exact Nat.le_refl _)
    (g := { method := m, pc := pc + 4, locals := ls, stack := .ref T.heap.size :: .ref T.heap.size :: rest, locked := none }) rfl hsize rfl rfl (rest := rest) rfl
    (by rw [hb]; exact d4) (by rw [hb]; exact d7) hout hRframes (by simp only [List.map_cons, List.sum_cons, hcat]; omega) hlocks
  obtain ⟨f1, f2⟩ := vx_frame hsame
  rw [hhp] at f1 f2
  have hWs : s.WarmedH U.vm := State.WarmedH.trans hW0 hW
  have hcl : s.vm.findClass cls = some ce.cls := by
    have h9 := hO.cls
    rw [hvm] at h9
    exact h9
  have hall : s.sameButNew ({ U with vm := s.vm } : State) locs mc ms := by
    subst hA
    obtain ⟨e1, e2⟩ := hsame
    rw [State.setFrames_setFrames] at e1
    have h2 : (T.setVm s.vm).sameButNew ({ U with vm := s.vm } : State) [] (0 + 1) (0 + 6) := ⟨e1, e2⟩
    have h3 := X.same.trans h2
    rw [List.append_nil] at h3
    exact h3.mono hc hs
  refine ⟨U, ?_, .threw T.heap.size, hrun, hend, Or.inr ⟨T.heap.size, rfl, cls, ce, locs, hx U hWs.alike f1 (fun q hq => f2 q hq (fun z hz => nomatch hz)), hce, hO.vm, hcl, hWs, hall, hf⟩⟩
  refine st1 _ ?_
  show Steps p.tables e below (T1.setTop { method := m, pc := pc + 3, locals := ls, stack := .ref T.heap.size :: rest, locked := none }) _
  jvm_step X₁.here [X₁.here.top, hexec, d3', Value.category]
  exact hsteps
/-- 'throw new E("text")': new; dup; ldc; invokespecial; athrow -/
theorem vx_throwS {cc : ByteArray} {pc : Nat} (hexec : p.tables.exec = Jvm.exec) (hb : c.code = cc) (hl : l.stackTraces = false) {own cls text : String} {names : List String} {ik is ic mc ms sa : Nat} {A : Nat → Prop}
    (hown : s.vm.findClass own = some m.cls) (hcls : Bundle.fit cls = true) (hnames : ∀ n ∈ names, Bundle.fit n = true)
    (hk : (Cond.classLink own ik cls).before args s = true) (hini : (Cond.initialized cls).before args s = true) (hstr : vk_R own is text sa s) (hat : ∀ w ∈ vx_atS own ic cls names, w.before args s = true)
    (hgood : ∀ w ∈ Cond.classLink own ik cls :: Cond.initialized cls :: vx_atS own ic cls names, vx_ot w = true)
    (hU : vx_Zq Bundle.tN "UNASSIGNED_STACK" Bundle.steD A s s.heap) (hN : vx_Zq Bundle.tN "SUPPRESSED_SENTINEL" Bundle.listD A s s.heap) (hS : va_S A s.heap H locs) (hsize : ls.size = c.maxLocals)
    (d0 : decode cc pc = .ok (.new ik, 3)) (d3 : decode cc (pc + 3) = .ok (.dup, 1)) (d4 : decode cc (pc + 4) = .ok (.ldc is, 2)) (d6 : decode cc (pc + 6) = .ok (.invokespecial ic, 3)) (d9 : decode cc (pc + 9) = .ok (.athrow, 1))
    (hout : ∀ x ∈ c.exceptionTable.toList, covers x (pc + 9) = false)
    (hRframes : names.length + 3 < R.frames) (hRlocals : (rest.map fun v => v.category).sum + (13 * (names.length + 1) + 43) ≤ R.locals) (hRcells : cells + 1 ≤ R.cells) (hRslots : slots + 6 ≤ R.slots) (hlocks : meth.locks = false)
    (hx : ∀ t : State, s.vm.Alike t.vm → H.size ≤ t.heap.size → (∀ q : Nat, q < H.size → t.heap[q]? = H[q]?) → XC cls s t)
    (hf : ∀ z ∈ locs, free z.base) (hc : cells + 1 ≤ mc) (hs : slots + 6 ≤ ms) :
    W p l e R s m args below meth c H locs cells slots (vx_MQ below Qc XC args s mc ms free) (F0 m pc ls rest) := by
  intro T hT X
  have htr : e.platform.stackTraces = false := (show e.platform.stackTraces = l.stackTraces by rw [X.admits.platform]).trans hl
  have Y := vx_rebase X (R' := { frames := R.frames, locals := R.locals, cells := 1, slots := 6 }) (Nat.le_refl _) (Nat.le_refl _) hRcells hRslots
  obtain ⟨s', hA⟩ : ∃ z, z = (T.setVm s.vm).setFrames (.invoking m args :: below) := ⟨_, rfl⟩
  rw [← hA] at Y
  have hvm : s'.vm = s.vm := by rw [hA]; rfl
  have hhp : s'.heap = H := by rw [hA]; exact hT
  have hW0 : s.WarmedH s'.vm := by rw [hvm]; exact State.WarmedH.refl s
  have hat' : ∀ w ∈ vx_atS own ic cls names, w.before args s' = true := fun w hw => vx_ot_at hW0 hvm.symm (hgood w (List.mem_cons_of_mem _ (List.mem_cons_of_mem _ hw))) (hat w hw)
  have hk' : (Cond.classLink own ik cls).before args s' = true := vx_ot_at hW0 hvm.symm (hgood _ List.mem_cons_self) hk
  have hini' : (Cond.initialized cls).before args s' = true := vx_ot_at hW0 hvm.symm (hgood _ (List.mem_cons_of_mem _ List.mem_cons_self)) hini
  have hU' : vx_Zq Bundle.tN "UNASSIGNED_STACK" Bundle.steD A s' s'.heap := by rw [hhp]; exact vx_Zq.moved hW0.alike (hU.kept hS.2.1)
  have hN' : vx_Zq Bundle.tN "SUPPRESSED_SENTINEL" Bundle.listD A s' s'.heap := by rw [hhp]; exact vx_Zq.moved hW0.alike (hN.kept hS.2.1)
  have h : ∀ w ∈ Bundle.ownAtoms own ic cls names, w.before args s' = true := vx_own hat' (vx_isRefq hU'.1) (vx_isRefq hN'.1) hU'.2.word hN'.2.word
  have hown' : s'.vm.findClass own = some m.cls := by rw [hvm]; exact hown
  have hins : (Cond.instantiable cls 6).before args s' = true := h _ (by simp [Bundle.ownAtoms])
  obtain ⟨vm₁, cX, kX, hfX, hkX, -, -, X₁, st1⟩ := Y.newCold hexec (own := own) (C := cls) (index := ik) (n := 6) hown' hk' hins hini'
    (g := F0 m pc ls rest) rfl (by rw [hb]; exact d0) (Nat.le_refl _) (Nat.le_refl _)
  generalize hT1 : (T.setVm vm₁).pushCell { cls := cX, slots := kX.instanceTypes.map defaultValue, vm := .none } = T1 at X₁ st1
  have hcat : (Value.ref T.heap.size).category = 1 := rfl
  have hcellA : T1.heap[T.heap.size]? = some (freshCell cX kX) := by rw [← hT1]; exact State.heap_pushCell_size _ _
  have d3' : decode c.code (pc + 3) = .ok (.dup, 1) := by rw [hb]; exact d3
  have d4' : decode c.code (pc + 4) = .ok (.ldc is, 2) := by rw [hb]; exact d4
  have hstr' : vk_R own is text sa s' := vk_R.warm hW0 hstr
  obtain ⟨U, hsteps, hrun, hend, hW, hsame, ce, hce, hO⟩ := X₁.ctorThrowS hexec htr (own := own) (cls := cls) (names := names) (ic := ic) hown' hcls hnames h (fun x hx => nomatch hx) hfX hkX hcellA (by rw [hhp, hT]; exact Nat.le_refl _) (msg := .ref sa) rfl
    (g := { method := m, pc := pc + 6, locals := ls, stack := .ref sa :: .ref T.heap.size :: .ref T.heap.size :: rest, locked := none }) rfl hsize rfl rfl (rest := rest) rfl
    (by rw [hb]; exact d6) (by rw [hb]; exact d9) hout hRframes (by simp only [List.map_cons, List.sum_cons, hcat]; omega) hlocks
  obtain ⟨f1, f2⟩ := vx_frame hsame
  rw [hhp] at f1 f2
  have hWs : s.WarmedH U.vm := State.WarmedH.trans hW0 hW
  have hcl : s.vm.findClass cls = some ce.cls := by
    have h9 := hO.cls
    rw [hvm] at h9
    exact h9
  have hall : s.sameButNew ({ U with vm := s.vm } : State) locs mc ms := by
    subst hA
    obtain ⟨e1, e2⟩ := hsame
    rw [State.setFrames_setFrames] at e1
    have h2 : (T.setVm s.vm).sameButNew ({ U with vm := s.vm } : State) [] (0 + 1) (0 + 6) := ⟨e1, e2⟩
    have h3 := X.same.trans h2
    rw [List.append_nil] at h3
    exact h3.mono hc hs
  refine ⟨U, ?_, .threw T.heap.size, hrun, hend, Or.inr ⟨T.heap.size, rfl, cls, ce, locs, hx U hWs.alike f1 (fun q hq => f2 q hq (fun z hz => nomatch hz)), hce, hO.vm, hcl, hWs, hall, hf⟩⟩
  refine st1 _ ?_
  show Steps p.tables e below (T1.setTop { method := m, pc := pc + 3, locals := ls, stack := .ref T.heap.size :: rest, locked := none }) _
  jvm_step X₁.here [X₁.here.top, hexec, d3', Value.category]
  exact X₁.ldcString hexec (own := own) (text := text) (index := is) (a := sa) hown' hstr'.1 hstr'.2
    (g := { method := m, pc := pc + 4, locals := ls, stack := .ref T.heap.size :: .ref T.heap.size :: rest, locked := none }) rfl d4' _ hsteps
/-- 'throw new E("text")', the text by a wide index -/
theorem vx_throwSW {cc : ByteArray} {pc : Nat} (hexec : p.tables.exec = Jvm.exec) (hb : c.code = cc) (hl : l.stackTraces = false) {own cls text : String} {names : List String} {ik is ic mc ms sa : Nat} {A : Nat → Prop}
    (hown : s.vm.findClass own = some m.cls) (hcls : Bundle.fit cls = true) (hnames : ∀ n ∈ names, Bundle.fit n = true)
    (hk : (Cond.classLink own ik cls).before args s = true) (hini : (Cond.initialized cls).before args s = true) (hstr : vk_R own is text sa s) (hat : ∀ w ∈ vx_atS own ic cls names, w.before args s = true)
    (hgood : ∀ w ∈ Cond.classLink own ik cls :: Cond.initialized cls :: vx_atS own ic cls names, vx_ot w = true)
    (hU : vx_Zq Bundle.tN "UNASSIGNED_STACK" Bundle.steD A s s.heap) (hN : vx_Zq Bundle.tN "SUPPRESSED_SENTINEL" Bundle.listD A s s.heap) (hS : va_S A s.heap H locs) (hsize : ls.size = c.maxLocals)
    (d0 : decode cc pc = .ok (.new ik, 3)) (d3 : decode cc (pc + 3) = .ok (.dup, 1)) (d4 : decode cc (pc + 4) = .ok (.ldc_w is, 3)) (d7 : decode cc (pc + 7) = .ok (.invokespecial ic, 3)) (d10 : decode cc (pc + 10) = .ok (.athrow, 1))
    (hout : ∀ x ∈ c.exceptionTable.toList, covers x (pc + 10) = false)
    (hRframes : names.length + 3 < R.frames) (hRlocals : (rest.map fun v => v.category).sum + (13 * (names.length + 1) + 43) ≤ R.locals) (hRcells : cells + 1 ≤ R.cells) (hRslots : slots + 6 ≤ R.slots) (hlocks : meth.locks = false)
    (hx : ∀ t : State, s.vm.Alike t.vm → H.size ≤ t.heap.size → (∀ q : Nat, q < H.size → t.heap[q]? = H[q]?) → XC cls s t)
    (hf : ∀ z ∈ locs, free z.base) (hc : cells + 1 ≤ mc) (hs : slots + 6 ≤ ms) :
    W p l e R s m args below meth c H locs cells slots (vx_MQ below Qc XC args s mc ms free) (F0 m pc ls rest) := by
  intro T hT X
  have htr : e.platform.stackTraces = false := (show e.platform.stackTraces = l.stackTraces by rw [X.admits.platform]).trans hl
  have Y := vx_rebase X (R' := { frames := R.frames, locals := R.locals, cells := 1, slots := 6 }) (Nat.le_refl _) (Nat.le_refl _) hRcells hRslots
  obtain ⟨s', hA⟩ : ∃ z, z = (T.setVm s.vm).setFrames (.invoking m args :: below) := ⟨_, rfl⟩
  rw [← hA] at Y
  have hvm : s'.vm = s.vm := by rw [hA]; rfl
  have hhp : s'.heap = H := by rw [hA]; exact hT
  have hW0 : s.WarmedH s'.vm := by rw [hvm]; exact State.WarmedH.refl s
  have hat' : ∀ w ∈ vx_atS own ic cls names, w.before args s' = true := fun w hw => vx_ot_at hW0 hvm.symm (hgood w (List.mem_cons_of_mem _ (List.mem_cons_of_mem _ hw))) (hat w hw)
  have hk' : (Cond.classLink own ik cls).before args s' = true := vx_ot_at hW0 hvm.symm (hgood _ List.mem_cons_self) hk
  have hini' : (Cond.initialized cls).before args s' = true := vx_ot_at hW0 hvm.symm (hgood _ (List.mem_cons_of_mem _ List.mem_cons_self)) hini
  have hU' : vx_Zq Bundle.tN "UNASSIGNED_STACK" Bundle.steD A s' s'.heap := by rw [hhp]; exact vx_Zq.moved hW0.alike (hU.kept hS.2.1)
  have hN' : vx_Zq Bundle.tN "SUPPRESSED_SENTINEL" Bundle.listD A s' s'.heap := by rw [hhp]; exact vx_Zq.moved hW0.alike (hN.kept hS.2.1)
  have h : ∀ w ∈ Bundle.ownAtoms own ic cls names, w.before args s' = true := vx_own hat' (vx_isRefq hU'.1) (vx_isRefq hN'.1) hU'.2.word hN'.2.word
  have hown' : s'.vm.findClass own = some m.cls := by rw [hvm]; exact hown
  have hins : (Cond.instantiable cls 6).before args s' = true := h _ (by simp [Bundle.ownAtoms])
  obtain ⟨vm₁, cX, kX, hfX, hkX, -, -, X₁, st1⟩ := Y.newCold hexec (own := own) (C := cls) (index := ik) (n := 6) hown' hk' hins hini'
    (g := F0 m pc ls rest) rfl (by rw [hb]; exact d0) (Nat.le_refl _) (Nat.le_refl _)
  generalize hT1 : (T.setVm vm₁).pushCell { cls := cX, slots := kX.instanceTypes.map defaultValue, vm := .none } = T1 at X₁ st1
  have hcat : (Value.ref T.heap.size).category = 1 := rfl
  have hcellA : T1.heap[T.heap.size]? = some (freshCell cX kX) := by rw [← hT1]; exact State.heap_pushCell_size _ _
  have d3' : decode c.code (pc + 3) = .ok (.dup, 1) := by rw [hb]; exact d3
  have d4' : decode c.code (pc + 4) = .ok (.ldc_w is, 3) := by rw [hb]; exact d4
  have hstr' : vk_R own is text sa s' := vk_R.warm hW0 hstr
  obtain ⟨U, hsteps, hrun, hend, hW, hsame, ce, hce, hO⟩ := X₁.ctorThrowS hexec htr (own := own) (cls := cls) (names := names) (ic := ic) hown' hcls hnames h (fun x hx => nomatch hx) hfX hkX hcellA (by rw [hhp, hT]; exact Nat.le_refl _) (msg := .ref sa) rfl
    (g := { method := m, pc := pc + 7, locals := ls, stack := .ref sa :: .ref T.heap.size :: .ref T.heap.size :: rest, locked := none }) rfl hsize rfl rfl (rest := rest) rfl
    (by rw [hb]; exact d7) (by rw [hb]; exact d10) hout hRframes (by simp only [List.map_cons, List.sum_cons, hcat]; omega) hlocks
  obtain ⟨f1, f2⟩ := vx_frame hsame
  rw [hhp] at f1 f2
  have hWs : s.WarmedH U.vm := State.WarmedH.trans hW0 hW
  have hcl : s.vm.findClass cls = some ce.cls := by
    have h9 := hO.cls
    rw [hvm] at h9
    exact h9
  have hall : s.sameButNew ({ U with vm := s.vm } : State) locs mc ms := by
    subst hA
    obtain ⟨e1, e2⟩ := hsame
    rw [State.setFrames_setFrames] at e1
    have h2 : (T.setVm s.vm).sameButNew ({ U with vm := s.vm } : State) [] (0 + 1) (0 + 6) := ⟨e1, e2⟩
    have h3 := X.same.trans h2
    rw [List.append_nil] at h3
    exact h3.mono hc hs
  refine ⟨U, ?_, .threw T.heap.size, hrun, hend, Or.inr ⟨T.heap.size, rfl, cls, ce, locs, hx U hWs.alike f1 (fun q hq => f2 q hq (fun z hz => nomatch hz)), hce, hO.vm, hcl, hWs, hall, hf⟩⟩
  refine st1 _ ?_
  show Steps p.tables e below (T1.setTop { method := m, pc := pc + 3, locals := ls, stack := .ref T.heap.size :: rest, locked := none }) _
  jvm_step X₁.here [X₁.here.top, hexec, d3', Value.category]
  exact X₁.ldcStringW hexec (own := own) (text := text) (index := is) (a := sa) hown' hstr'.1 hstr'.2
    (g := { method := m, pc := pc + 4, locals := ls, stack := .ref T.heap.size :: .ref T.heap.size :: rest, locked := none }) rfl d4' _ hsteps
end Ends
section Bodies
variable {l : Launch}
theorem vx_ofW {y : MethodName} {ws ws' : List Cond} {rm : Room} {Pc : Array Value → State → Prop} {Qc : Array Value → State → Outcome → State → Prop} {XC : String → State → State → Prop} {mc ms : Nat} {free : Addr → Prop} {cc : ByteArray} {maxL : Nat} {ret : Option FieldType}
    (hy : plainName y.cls = true) (hw : ws = Cond.code y cc maxL ret :: ws')
    (body : ∀ p e s m args below meth c s₁, BodyLoose p l y (headSpec ws rm) cc maxL ret e s m args below meth c s₁ → c.maxLocals = maxL → (∀ x ∈ c.exceptionTable.toList, False) → Pc args s →
      W p l e (headSpec ws rm).room s m args below meth c s.heap [] 0 0 (vx_MQ below Qc XC args s mc ms free) (entryFrame m args maxL)) : vx_Met l y ws rm Pc Qc XC mc ms free := by
  refine MetFree.of_bodyS (code := cc) (maxLocals := maxL) (ret := ret) hy ?_ ?_
  · intro args s m h hn
    obtain ⟨meth, c, h1, h2, h3, h4, h5, h6, -, -⟩ := Cond.code_spec hn (atoms_spec (ws := ws) h _ (by rw [hw]; exact List.mem_cons_self))
    exact ⟨meth, c, h1, h2, h3, h4, h5, h6⟩
  · intro p e s m args below meth c s₁ B hml hP _
    have hh0 : s₁.heap = s.heap := by rw [B.state]; rfl
    have ht : ∀ x ∈ c.exceptionTable.toList, False := by
      obtain ⟨meth9, c9, h1, h2, -, -, -, -, h7, -⟩ := Cond.code_spec B.named (atoms_spec (ws := ws) B.pre _ (by rw [hw]; exact List.mem_cons_self))
      cases Option.some.inj (h1.symm.trans B.method)
      cases Option.some.inj (h2.symm.trans (Stand.of_body B).code)
      intro x hx
      rw [Array.isEmpty_iff.mp h7] at hx
      cases hx
    obtain ⟨t, a1, o, b1, b2, b3⟩ := body p e s m args below meth c s₁ B hml ht hP s₁ hh0 (Stand.of_body B)
    exact ⟨t, o, a1, b1, b2, b3⟩
/-- the table of a body with handlers -/
theorem vx_table {p : Program} {x y : MethodName} {S : Spec} {cc bytes : ByteArray} {maxL maxL' : Nat} {ret ret' : Option FieldType} {e : Env} {s s₁ : State} {m : MethodId} {args : Array Value} {below : List Frame} {meth : Method} {c : Code} {hh : List (Nat × Nat × Nat × Nat)}
    (B : BodyLoose p l y S cc maxL ret e s m args below meth c s₁) (h : (Cond.codeWith y bytes maxL' ret' hh).before args s = true) : c.exceptionTable.toList = tableOf hh := by
  obtain ⟨m9, meth9, c9, hn9, h1, h2, -, -, h6, -⟩ := Cond.codeWith_spec h
  cases Option.some.inj (hn9.symm.trans B.named)
  cases Option.some.inj (h1.symm.trans B.method)
  cases Option.some.inj (h2.symm.trans (Stand.of_body B).code)
  rw [← h6, table_eq]
end Bodies
end VXA
/-! ===== END ===== -/
/-! ===== BEGIN a static call of a method with an exception table ===== -/
section VXS
variable {p : Program} {l : Launch} {e : Env} {R : Room} {s : State} {m : MethodId} {args : Array Value} {below : List Frame} {meth : Method} {c : Code} {T : State} {H : Heap} {locs : List Loc} {cells slots : Nat}
abbrev vx_CSW (R : Room) (s : State) (args : Array Value) (own : String) (index : Nat) (y : MethodName) (bytes : ByteArray) (maxL : Nat) (ret : Option FieldType) (hh : List (Nat × Nat × Nat × Nat)) (ws : List Cond) (rm : Room) (mc ms n : Nat) : Prop :=
  (rm.cells = mc ∧ rm.slots = ms ∧ rm.frames + 1 ≤ R.frames ∧ 8 + (maxL + 11) + rm.locals ≤ R.locals ∧ (∀ w ∈ ws, ∀ (a' : Array Value) (U : State), s.WarmedH U.vm → w.before a' U = true) ∧ Cond.codeWith y bytes maxL ret hh ∈ ws) ∧
  (Cond.codeWith y bytes maxL ret hh).before args s = true ∧ (Cond.initialized y.cls).before args s = true ∧ (y.cls ≠ "java/lang/invoke/MethodHandle" ∧ y.cls ≠ "java/lang/invoke/VarHandle") ∧
  (∀ sig, parseMethodDescriptor y.desc = some sig → n = sig.parameters.length) ∧ (Cond.methodLink own index y).before args s = true ∧ (Cond.static y).before args s = true
theorem vx_cwSW {own : String} {index maxL mc ms : Nat} {y : MethodName} {bytes : ByteArray} {ret : Option FieldType} {hh : List (Nat × Nat × Nat × Nat)} {Ts ws ws' : List Cond} {rm : Room} (n : Nat) (ht : ∀ w ∈ Ts, w.before args s = true) (hT : GoodIn Ts (va_wsS own index y ws)) (hw : ws = Cond.codeWith y bytes maxL ret hh :: ws') (hrc : rm.cells = mc) (hrs : rm.slots = ms)
    (hd : y.cls ≠ "java/lang/invoke/MethodHandle" ∧ y.cls ≠ "java/lang/invoke/VarHandle" ∧ (parseMethodDescriptor y.desc).map (fun d => d.parameters.length) = some n) (hR : rm.frames + 1 ≤ R.frames ∧ 8 + (maxL + 11) + rm.locals ≤ R.locals) :
    vx_CSW R s args own index y bytes maxL ret hh ws rm mc ms n := by
  have ok : ∀ w ∈ va_wsS own index y ws, w.before args s = true := fun w h => ht w (hT w h).1
  have hG : GoodIn Ts ws := fun w h => hT w (by unfold va_wsS; exact List.mem_append_right _ h)
  have hc : Cond.codeWith y bytes maxL ret hh ∈ ws := by rw [hw]; exact List.mem_cons_self
  refine ⟨⟨hrc, hrs, hR.1, hR.2, pay_in ht hG, hc⟩, ht _ (hG _ hc).1, ok _ (by simp [va_wsS]), ⟨hd.1, hd.2.1⟩, fun sig h => ?_, ok _ (by simp [va_wsS]), ok _ (by simp [va_wsS])⟩
  have h2 := hd.2.2
  rw [h] at h2
  exact (Option.some.inj h2).symm
theorem vx_callSW (X : Stand p l e R s m args below meth c T locs cells slots) (hexec : p.tables.exec = Jvm.exec) {own : String} {index : Nat} {y : MethodName} {bytes : ByteArray} {maxL : Nat} {ret : Option FieldType} {hh : List (Nat × Nat × Nat × Nat)}
    (hown : s.vm.findClass own = some m.cls) (hlink : (Cond.methodLink own index y).before args s = true) (hstat : (Cond.static y).before args s = true) (hinit : (Cond.initialized y.cls).before args s = true)
    (hcode : (Cond.codeWith y bytes maxL ret hh).before args s = true) (hy : y.cls ≠ "java/lang/invoke/MethodHandle" ∧ y.cls ≠ "java/lang/invoke/VarHandle")
    {W9 : Nat} {Pre : Pt → Array Value → Prop} {Post : Pt → Array Value → Option Value → Pt → Prop} (hK : Back l R p e below s args y 3 W9 Pre Post)
    {g : JFrame} (hg : g.method = m) (hsize : g.locals.size = c.maxLocals) {argsL rest : List Value} (hlen : ∀ sig, parseMethodDescriptor y.desc = some sig → argsL.length = sig.parameters.length)
    (hstack : g.stack = argsL.reverse ++ rest) (hW : 2 * g.monitorRoom + (rest.map fun v => v.category).sum ≤ W9) (hdg : decode c.code g.pc = .ok (.invokestatic index, 3))
    (hpre : ∀ vm₁, s.WarmedH vm₁ → Pre ⟨T.setVm vm₁, locs, cells, slots⟩ argsL.toArray) :
    ∃ (v : Option Value) (vm₁ : Vm) (B : Pt), s.WarmedH vm₁ ∧ Stand p l e R s m args below meth c B.U B.locs B.cells B.slots ∧ Post ⟨T.setVm vm₁, locs, cells, slots⟩ argsL.toArray v B ∧
      ∀ target, Steps p.tables e below (B.U.setTop { g with pc := g.pc + 3, stack := v.toList ++ rest }) target → Steps p.tables e below (T.setTop g) target := by
  obtain ⟨mk, methM, cM, hnamed, hmethM, -, -, -, -, -, -, hsigM⟩ := Cond.codeWith_spec hcode
  have hstatic : methM.isStatic = true := Cond.static_spec hnamed hmethM hstat
  obtain ⟨kP, hkP, -⟩ := className_of_methodNamed hnamed
  have hinitP : kP.init = .initialized := Cond.initialized_spec (findClass_of_methodNamed hnamed) hkP hinit
  obtain ⟨vm₁, X₁, hstep₁⟩ := X.invokestatic hexec hown hlink hnamed hmethM hstatic hkP hinitP hy (g := g) hg (argsL := argsL) (rest := rest) (hlen _ hsigM) hstack hdg
  obtain ⟨v, B, X', hpost, hsteps⟩ := hK m meth c ⟨T.setVm vm₁, locs, cells, slots⟩ { g with stack := rest } (.invokestatic index) mk argsL.toArray X₁ hg hsize hdg hW (X₁.named hnamed) (hpre vm₁ X₁.warmed)
  exact ⟨v, vm₁, B, X₁.warmed, X', hpost, fun target h => hstep₁ _ fun acts => by rw [doInvoke_state]; exact hsteps.trans h⟩
theorem vx_runSW {y : MethodName} {bytes cc : ByteArray} {maxL nL mc ms n index : Nat} {ret : Option FieldType} {hh : List (Nat × Nat × Nat × Nat)} {ws : List Cond} {rm : Room} {Pc : Array Value → State → Prop} {Qc : Array Value → State → Outcome → State → Prop} {free : Addr → Prop} {Ts : List Cond} {own : String} {As rest : List Value} {g : JFrame}
    (S : CallFix p m c cc nL s args Ts own) (hM : Met l y ws rm Pc Qc mc ms free) (cw : vx_CSW R s args own index y bytes maxL ret hh ws rm mc ms n) (hp : PreS s H Pc As)
    (hg : g.method = m) (hn : As.length = n) (hsize : g.locals.size = nL) (hstack : g.stack = As.reverse ++ rest) (hW : 2 * g.monitorRoom + (rest.map fun v => v.category).sum ≤ 8) (hdg : decode cc g.pc = .ok (.invokestatic index, 3)) (hf : cells + mc ≤ R.cells ∧ slots + ms ≤ R.slots) :
    va_Run p l e R s m args below meth c H locs cells slots mc ms g rest (Qc As.toArray) (free) := by
  obtain ⟨⟨hrc, hrs, hfr, hlo, hws, hcw⟩, hcode, hini, hy, hlen, hl, hstt⟩ := cw
  have hK : Back l R p e below s args y 3 8 (PreOf R mc ms Pc) (PostOf Qc mc ms free) := va_backW (hh := hh) (bytes := bytes) (maxL := maxL) (ret := ret) hM hp.1 hrc hrs hfr hlo hws hcw (fun a' U hW => word_at hW (Or.inl (by first | rfl | simp [Cond.onTables, Cond.keeps, Cond.steady])) hini)
  obtain ⟨hx, hb, hml, ho, -⟩ := S
  intro T hT X
  obtain ⟨v, vm₁, ⟨U', l2, c2, s2⟩, hW₁, X', ⟨g', mk, t, L, e1, e2, hq, h1, hL, h2, h3⟩, st⟩ := vx_callSW X hx (hh := hh) (bytes := bytes) (maxL := maxL) (ret := ret) ho hl hstt hini hcode hy hK hg (hsize.trans hml.symm) (argsL := As) (rest := rest) (fun sig h => hn.trans (hlen sig h)) hstack hW (by rw [hb]; exact hdg)
    (fun vm₁ hW₁ => ⟨hf.1, hf.2, hp.2 (T.setVm vm₁) hT hW₁⟩)
  dsimp only [Pt.U, Pt.locs, Pt.cells, Pt.slots] at X' e1 e2 h1 h2 h3 st
  subst h1; subst h2; subst h3
  exact ⟨v, (T.setVm vm₁).calling g' mk As.toArray, t, U', L, hT, X', hL, e1, e2, hq, st⟩
/-- not caught here, past rows that name other classes: it goes on to the caller -/
theorem vx_outP {p : Program} {l : Launch} {e : Env} {R : Room} {s : State} {m : MethodId} {args : Array Value} {below : List Frame} {meth : Method} {c : Code} {H : Heap} {locs : List Loc} {cells slots : Nat} {free : Addr → Prop} {ls : Array Slot} {rest : List Value} {Qc : Array Value → State → Outcome → State → Prop} {XC : String → State → State → Prop}
    {pc : Nat} {own E : String} {ce : Cell} {q : Addr} {mc ms : Nat} (hown : s.vm.findClass own = some m.cls) (hlocks : meth.locks = false)
    (hpass : ∀ z ∈ c.exceptionTable.toList, covers z pc = false ∨ (z.catchType ≠ 0 ∧ ∃ nm : String, (Cond.classLink own z.catchType nm).before args s = true ∧ va_Nc E nm s)) (hcell : H[q]? = some ce) (hv : ce.vm = .none) (hcl : s.vm.findClass E = some ce.cls)
    (hx : ∀ t : State, t.heap = H → s.vm.Alike t.vm → XC E s t) (hf : ∀ z ∈ locs, free z.base) (hc : cells ≤ mc) (hs : slots ≤ ms) :
    vx_W p l e R s m args below meth c H locs cells slots (vx_MQ below Qc XC args s mc ms free) (F0 m pc ls rest) q := by
  intro T hT X
  have hpl : e.platform.magicAccessors = ({} : Platform).magicAccessors := by rw [X.admits.platform]
  obtain ⟨vm', hW', X', st⟩ := X.outThrough hlocks q (g := F0 m pc ls rest) rfl rfl rfl (cell := ce) (by rw [hT]; exact hcell) (by rw [hv]; rfl)
    (by obtain ⟨k9, h9, -⟩ := Vm.findClass_spec hcl; exact ⟨k9, h9⟩) (fun z hz => by
      rcases hpass z hz with h | ⟨hz0, nm, hl1, hn1⟩
      · exact Or.inl h
      · obtain ⟨c6, hc6, hcl6⟩ := Cond.classLink_spec hown hl1 e.platform hpl
        obtain ⟨a8, b8, h1, h2, h3⟩ := hn1
        cases Option.some.inj (h1.symm.trans hcl)
        cases Option.some.inj (h2.symm.trans hc6)
        exact Or.inr ⟨hz0, _, hcl6, h3⟩)
  obtain ⟨g₀, hfr⟩ := X'.frames_eq
  have hcell9 : ((T.setVm vm').setFrames (.throwing q :: below)).heap[q]? = some ce := by
    show T.heap[q]? = some ce
    rw [hT]; exact hcell
  have hend : Ended ((T.setVm vm').setFrames (.throwing q :: below)) below (.threw q) := State.frames_setFrames _ (State.cur_lt_of_frames hfr)
  refine ⟨(T.setVm vm').setFrames (.throwing q :: below), ?_, .threw q, X'.here.running, hend, Or.inr ⟨q, rfl, E, ce, locs, hx _ hT (X'.ends _).1.alike, hcell9, hv, hcl, (X'.ends _).1, (X'.ends _).2.mono hc hs, hf⟩⟩
  rw [X.pushThrowing_eq]
  exact st
/-- a thing of a world lies in the heap -/
theorem vx_lt {D : va_G} {cl : List vw_C} {ws : va_W} {H1 : Heap} (h : va_P D cl ws H1) {k : Nat} {q : Nat × va_E} (hk : ws[k]? = some q) : q.1 < H1.size := (h k q hk).lt
end VXS
/-! ===== END ===== -/
/-! ===== BEGIN methods with a table of their own: called by a name, returning or throwing ===== -/
section VXH
/-! vx_backW, vx_callVX, vx_callSX, vx_callVW, vx_runVW, vx_runVX, vx_runSX, vx_ofWH follow the same proofs as their sisters above (Free/Laws.lean, Shelf42/LK1.lean); vx_outP calls Shelf42/NT130.lean (outThrough). -/
section
variable {l : Launch} {R : Room} {p : Program} {e : Env} {below : List Frame} {s : State} {sargs : Array Value} {y : MethodName} {len W9 : Nat}
theorem vx_backW {ws : List Cond} {rm : Room} {Pc : Array Value → State → Prop} {Qc : Array Value → State → Outcome → State → Prop} {XC : String → State → State → Prop} {mc ms : Nat} {free : Addr → Prop} {bytes : ByteArray} {maxL : Nat} {ret : Option FieldType} {hh : List (Nat × Nat × Nat × Nat)}
    (hM : vx_Met l y ws rm Pc Qc XC mc ms free) (hblind : FrameBlind Pc) (hrc : rm.cells = mc) (hrs : rm.slots = ms)
    (hframes : rm.frames + 1 ≤ R.frames) (hlocals : W9 + (maxL + 11) + rm.locals ≤ R.locals)
    (hws : ∀ w ∈ ws, ∀ a' U, s.WarmedH U.vm → w.before a' U = true) (hcode : Cond.codeWith y bytes maxL ret hh ∈ ws) (hinit : ∀ a' U, s.WarmedH U.vm → (Cond.initialized y.cls).before a' U = true) :
    vx_Back l R p e below s sargs y len W9 (PreOf R mc ms Pc) (PostOf Qc mc ms free) (vx_Post XC mc ms free) := by
  intro m meth c A g ig mk a X hg hsize hdg hW hn hp
  have h1 : (headSpec ws rm).pre.before a A.U = true := atoms_intro fun w hw => hws w hw _ _ X.warmed
  have h2 : (Cond.codeWith y bytes maxL ret hh).before a A.U = true := hws _ hcode _ _ X.warmed
  have h3 : (Cond.initialized y.cls).before a A.U = true := hinit _ _ X.warmed
  have h4 : A.cells + (headSpec ws rm).room.cells ≤ R.cells := by rw [show (headSpec ws rm).room.cells = mc from hrc]; exact hp.1
  have h5 : A.slots + (headSpec ws rm).room.slots ≤ R.slots := by rw [show (headSpec ws rm).room.slots = ms from hrs]; exact hp.2.1
  have hPc : Pc a (A.U.calling g mk a) := hblind _ _ _ _ hp.2.2
  obtain ⟨U, Ls, c0, s0⟩ := A
  dsimp only [Pt.U, Pt.locs, Pt.cells, Pt.slots] at h1 h2 h3 h4 h5 X hn hPc ⊢
  obtain ⟨m9, methY, cY, hn9, hmY, hcY, -, hlY, -⟩ := Cond.codeWith_spec h2
  cases Option.some.inj (hn9.symm.trans hn)
  obtain ⟨kY, hkY, -⟩ := className_of_methodNamed hn
  have hinitY : kY.init = .initialized := Cond.initialized_spec (findClass_of_methodNamed hn) hkY h3
  have h : At U g.method c below := by rw [hg]; exact X.here
  have hlocals9 : W9 + (maxL + 11) + (headSpec ws rm).room.locals ≤ R.locals := hlocals
  have happ : (headSpec ws rm).appliesLoose y e.platform (U.calling g mk a) = true :=
    Spec.appliesLoose_calling (g := g) h hdg hn hkY hinitY
      (X.room_calling (g := g) (R' := (headSpec ws rm).room) hsize hmY hcY hframes (by rw [hlY]; omega) h4 h5) h1
  obtain ⟨mid, hmid⟩ := h.above
  have hfr : (U.setTop g).frames = (.java g :: mid) ++ below := by rw [State.frames_setTop' g h.top, hmid]; rfl
  obtain ⟨o, s₂, hsteps, -, hend, hq⟩ := Steps.callFree hM p X.admits X.cas X.clock (acts := []) hfr happ hPc trivial
  have hq' : vx_Q Qc XC mc ms free a (U.calling g mk a) o s₂ := hq
  rw [State.frames_setTop' g h.top] at hend
  obtain ⟨g₀, hg0⟩ := Option.isSome_iff_exists.mp h.top
  obtain ⟨r, hr⟩ := State.topJava?_eq_some.mp hg0
  have hr' : (({ U with heap := s₂.heap, slotsUsed := s₂.slotsUsed } : State).setVm s₂.vm).frames = .java g₀ :: r := hr
  rcases hq' with ⟨hqc, L, hfe, hL⟩ | ⟨q, rfl, E, ce, L, hx, hce, hcv, hcl, hW₂, hsm, hL⟩
  · obtain ⟨⟨v, rfl⟩, hW₂, e2, q2, q3, q4, q5, q6⟩ := id hfe
    have e3 : s₂ = ({ (U.calling g mk a).setFrames s₂.frames with heap := s₂.heap, slotsUsed := s₂.slotsUsed } : State).setVm s₂.vm := by
      have : s₂ = ({ s₂ with vm := (U.calling g mk a).vm } : State).setVm s₂.vm := rfl
      rw [e2] at this
      exact this
    obtain ⟨c₂, i₂, len₂, hc₂, hd₂, hf₂⟩ := hend
    have hW' : U.WarmedH s₂.vm := hW₂
    have hcc : c₂ = c := by
      have h1 : s₂.code? g.method = U.code? g.method := by
        rw [State.code?_eq, State.code?_eq, hW'.alike.method?]
      exact Option.some.inj (hc₂.symm.trans (h1.trans h.code))
    subst hcc
    have hlen : len₂ = len := by rw [hdg] at hd₂; cases hd₂; rfl
    subst hlen
    have hs₂ : s₂ = (({ U with heap := s₂.heap, slotsUsed := s₂.slotsUsed } : State).setVm s₂.vm).setTop { g with pc := g.pc + len₂, stack := v.toList ++ g.stack } := by
      refine e3.trans ?_
      rw [hf₂, State.calling_eq h.top, State.setFrames_setFrames, State.setTop_of_frames _ hr', hr]
      rfl
    have hsame : U.sameButNew ({ U with heap := s₂.heap, slotsUsed := s₂.slotsUsed } : State) L mc ms := by
      refine ⟨?_, q2, q3, q4, q5, q6⟩
      obtain ⟨t, ht, -⟩ := State.frames_cons hr
      show ({ U with heap := s₂.heap, slotsUsed := s₂.slotsUsed } : State) = { U.setFrames U.frames with heap := s₂.heap, slotsUsed := s₂.slotsUsed }
      rw [State.setFrames_self ht]
    subst hg
    refine Or.inl ⟨v, ⟨(({ U with heap := s₂.heap, slotsUsed := s₂.slotsUsed } : State).setVm s₂.vm), Ls ++ L, c0 + mc, s0 + ms⟩,
      ⟨X.admits, X.cas, X.clock, X.frames, X.room, X.hears, X.method, X.code, (X.here.setHeapUsed s₂.heap s₂.slotsUsed).setVm hW'.alike, X.tail, State.WarmedH.trans X.warmed hW', X.limits, X.bytes, X.same.trans (hsame.setVm s.vm)⟩,
      ⟨g, mk, s₂, L, rfl, rfl, hqc, rfl, hL, rfl, rfl⟩, ?_⟩
    show Steps p.tables e below _ ((({ U with heap := s₂.heap, slotsUsed := s₂.slotsUsed } : State).setVm s₂.vm).setTop { g with pc := g.pc + len₂, stack := v.toList ++ g.stack })
    rw [← hs₂]
    exact hsteps
  · obtain ⟨e2, q2, q3, q4, q5, q6⟩ := id hsm
    have e3 : s₂ = ({ (U.calling g mk a).setFrames s₂.frames with heap := s₂.heap, slotsUsed := s₂.slotsUsed } : State).setVm s₂.vm := by
      have : s₂ = ({ s₂ with vm := (U.calling g mk a).vm } : State).setVm s₂.vm := rfl
      rw [e2] at this
      exact this
    have hf₂ : s₂.frames = .throwing q :: .java g :: U.frames.tail := hend
    have hW' : U.WarmedH s₂.vm := hW₂
    have hs₂ : s₂ = ((({ U with heap := s₂.heap, slotsUsed := s₂.slotsUsed } : State).setVm s₂.vm).setTop g).pushFrame (.throwing q) := by
      refine e3.trans ?_
      rw [hf₂, State.calling_eq h.top, State.setFrames_setFrames, State.pushFrame, State.frames_setTop _ hr', State.setTop_of_frames _ hr', State.setFrames_setFrames, hr]
      rfl
    have hsame : U.sameButNew ({ U with heap := s₂.heap, slotsUsed := s₂.slotsUsed } : State) L mc ms := by
      refine ⟨?_, q2, q3, q4, q5, q6⟩
      obtain ⟨t, ht, -⟩ := State.frames_cons hr
      show ({ U with heap := s₂.heap, slotsUsed := s₂.slotsUsed } : State) = { U.setFrames U.frames with heap := s₂.heap, slotsUsed := s₂.slotsUsed }
      rw [State.setFrames_self ht]
    subst hg
    refine Or.inr ⟨q, ⟨(({ U with heap := s₂.heap, slotsUsed := s₂.slotsUsed } : State).setVm s₂.vm), Ls ++ L, c0 + mc, s0 + ms⟩,
      ⟨X.admits, X.cas, X.clock, X.frames, X.room, X.hears, X.method, X.code, (X.here.setHeapUsed s₂.heap s₂.slotsUsed).setVm hW'.alike, X.tail, State.WarmedH.trans X.warmed hW', X.limits, X.bytes, X.same.trans (hsame.setVm s.vm)⟩,
      ⟨g, mk, s₂, L, E, ce, rfl, rfl, hx, hce, hcv, hcl, rfl, hL, rfl, rfl⟩, ?_⟩
    show Steps p.tables e below _ (((({ U with heap := s₂.heap, slotsUsed := s₂.slotsUsed } : State).setVm s₂.vm).setTop g).pushFrame (.throwing q))
    rw [← hs₂]
    exact hsteps
end
variable {p : Program} {l : Launch} {e : Env} {R : Room} {s : State} {m : MethodId} {args : Array Value} {below : List Frame} {meth : Method} {c : Code} {T : State} {H : Heap} {locs : List Loc} {cells slots : Nat}
theorem vx_callVX (X : Stand p l e R s m args below meth c T locs cells slots) (hexec : p.tables.exec = Jvm.exec) {own C : String} {index : Nat} {y : MethodName} {bytes : ByteArray} {maxL : Nat} {ret : Option FieldType} {hh : List (Nat × Nat × Nat × Nat)}
    (hown : s.vm.findClass own = some m.cls) (hlink : (Cond.methodLink own index y).before args s = true) (hinst : (Cond.instanceMethod y).before args s = true) (hsel : (Cond.selects C y y).before args s = true)
    (hcode : (Cond.codeWith y bytes maxL ret hh).before args s = true) (hy : y.cls ≠ "java/lang/invoke/MethodHandle" ∧ y.cls ≠ "java/lang/invoke/VarHandle")
    {W9 : Nat} {Pre : Pt → Array Value → Prop} {Post : Pt → Array Value → Option Value → Pt → Prop} {PostX : Pt → Array Value → Addr → Pt → Prop} (hK : vx_Back l R p e below s args y 3 W9 Pre Post PostX)
    {b : Addr} {cellB : Cell} (hcell : T.heap[b]? = some cellB) (hobj : cellB.vm.isStatics = false) (hcls : s.vm.findClass C = some cellB.cls)
    {g : JFrame} (hg : g.method = m) (hsize : g.locals.size = c.maxLocals) {argsL rest : List Value} (hlen : ∀ sig, parseMethodDescriptor y.desc = some sig → argsL.length = sig.parameters.length)
    (hstack : g.stack = argsL.reverse ++ .ref b :: rest) (hW : 2 * g.monitorRoom + (rest.map fun v => v.category).sum ≤ W9) (hdg : decode c.code g.pc = .ok (.invokevirtual index, 3))
    (hpre : ∀ vm₁, s.WarmedH vm₁ → Pre ⟨T.setVm vm₁, locs, cells, slots⟩ (Value.ref b :: argsL).toArray) :
    (∃ (v : Option Value) (vm₁ : Vm) (B : Pt), s.WarmedH vm₁ ∧ Stand p l e R s m args below meth c B.U B.locs B.cells B.slots ∧ Post ⟨T.setVm vm₁, locs, cells, slots⟩ (Value.ref b :: argsL).toArray v B ∧
      ∀ target, Steps p.tables e below (B.U.setTop { g with pc := g.pc + 3, stack := v.toList ++ rest }) target → Steps p.tables e below (T.setTop g) target) ∨
    (∃ (q : Addr) (vm₁ : Vm) (B : Pt), s.WarmedH vm₁ ∧ Stand p l e R s m args below meth c B.U B.locs B.cells B.slots ∧ PostX ⟨T.setVm vm₁, locs, cells, slots⟩ (Value.ref b :: argsL).toArray q B ∧
      Steps p.tables e below (T.setTop g) ((B.U.setTop { g with stack := rest }).pushFrame (.throwing q))) := by
  obtain ⟨mk, methM, hnamed, hmethM, hstM, habM⟩ := Cond.instanceMethod_spec hinst
  obtain ⟨m8, methM', cM, hn8, hmethM', -, -, -, -, -, -, hsigM⟩ := Cond.codeWith_spec hcode
  cases Option.some.inj (hn8.symm.trans hnamed)
  cases hmethM.symm.trans hmethM'
  obtain ⟨c2, r2, m2, q1, q2, q3, q4, kP, hkP, hkPi⟩ := Cond.selects_spec hsel
  cases hcls.symm.trans q1
  cases (State.methodFound?_of_named hnamed hy).symm.trans q2
  cases hnamed.symm.trans q3
  have hselP : selectMethod e.platform s.vm cellB.cls mk = .method mk := by rw [Launch.admits_selectMethod X.admits]; exact q4
  obtain ⟨vm₁, X₁, hstep₁⟩ := X.invokevirtual hexec hown hlink hnamed hmethM hstM hkP hkPi hy (a := b) (cell := cellB) hcell
    (fun z h => by rw [h] at hobj; cases hobj) hselP hmethM habM hkP hkPi (g := g) hg (argsL := argsL) (rest := rest) (hlen _ hsigM) hstack hdg
  rcases hK m meth c ⟨T.setVm vm₁, locs, cells, slots⟩ { g with stack := rest } (.invokevirtual index) mk (Value.ref b :: argsL).toArray X₁ hg hsize hdg hW (X₁.named hnamed) (hpre vm₁ X₁.warmed) with ⟨v, B, X', hpost, hsteps⟩ | ⟨q, B, X', hpost, hsteps⟩
  · exact Or.inl ⟨v, vm₁, B, X₁.warmed, X', hpost, fun target h => hstep₁ _ fun acts => by rw [doInvoke_state]; exact hsteps.trans h⟩
  · exact Or.inr ⟨q, vm₁, B, X₁.warmed, X', hpost, hstep₁ _ fun acts => by rw [doInvoke_state]; exact hsteps⟩
theorem vx_callSX (X : Stand p l e R s m args below meth c T locs cells slots) (hexec : p.tables.exec = Jvm.exec) {own : String} {index : Nat} {y : MethodName} {bytes : ByteArray} {maxL : Nat} {ret : Option FieldType} {hh : List (Nat × Nat × Nat × Nat)}
    (hown : s.vm.findClass own = some m.cls) (hlink : (Cond.methodLink own index y).before args s = true) (hstat : (Cond.static y).before args s = true) (hinit : (Cond.initialized y.cls).before args s = true)
    (hcode : (Cond.codeWith y bytes maxL ret hh).before args s = true) (hy : y.cls ≠ "java/lang/invoke/MethodHandle" ∧ y.cls ≠ "java/lang/invoke/VarHandle")
    {W9 : Nat} {Pre : Pt → Array Value → Prop} {Post : Pt → Array Value → Option Value → Pt → Prop} {PostX : Pt → Array Value → Addr → Pt → Prop} (hK : vx_Back l R p e below s args y 3 W9 Pre Post PostX)
    {g : JFrame} (hg : g.method = m) (hsize : g.locals.size = c.maxLocals) {argsL rest : List Value} (hlen : ∀ sig, parseMethodDescriptor y.desc = some sig → argsL.length = sig.parameters.length)
    (hstack : g.stack = argsL.reverse ++ rest) (hW : 2 * g.monitorRoom + (rest.map fun v => v.category).sum ≤ W9) (hdg : decode c.code g.pc = .ok (.invokestatic index, 3))
    (hpre : ∀ vm₁, s.WarmedH vm₁ → Pre ⟨T.setVm vm₁, locs, cells, slots⟩ argsL.toArray) :
    (∃ (v : Option Value) (vm₁ : Vm) (B : Pt), s.WarmedH vm₁ ∧ Stand p l e R s m args below meth c B.U B.locs B.cells B.slots ∧ Post ⟨T.setVm vm₁, locs, cells, slots⟩ argsL.toArray v B ∧
      ∀ target, Steps p.tables e below (B.U.setTop { g with pc := g.pc + 3, stack := v.toList ++ rest }) target → Steps p.tables e below (T.setTop g) target) ∨
    (∃ (q : Addr) (vm₁ : Vm) (B : Pt), s.WarmedH vm₁ ∧ Stand p l e R s m args below meth c B.U B.locs B.cells B.slots ∧ PostX ⟨T.setVm vm₁, locs, cells, slots⟩ argsL.toArray q B ∧
      Steps p.tables e below (T.setTop g) ((B.U.setTop { g with stack := rest }).pushFrame (.throwing q))) := by
  obtain ⟨mk, methM, cM, hnamed, hmethM, -, -, -, -, -, -, hsigM⟩ := Cond.codeWith_spec hcode
  have hstatic : methM.isStatic = true := Cond.static_spec hnamed hmethM hstat
  obtain ⟨kP, hkP, -⟩ := className_of_methodNamed hnamed
  have hinitP : kP.init = .initialized := Cond.initialized_spec (findClass_of_methodNamed hnamed) hkP hinit
  obtain ⟨vm₁, X₁, hstep₁⟩ := X.invokestatic hexec hown hlink hnamed hmethM hstatic hkP hinitP hy (g := g) hg (argsL := argsL) (rest := rest) (hlen _ hsigM) hstack hdg
  rcases hK m meth c ⟨T.setVm vm₁, locs, cells, slots⟩ { g with stack := rest } (.invokestatic index) mk argsL.toArray X₁ hg hsize hdg hW (X₁.named hnamed) (hpre vm₁ X₁.warmed) with ⟨v, B, X', hpost, hsteps⟩ | ⟨q, B, X', hpost, hsteps⟩
  · exact Or.inl ⟨v, vm₁, B, X₁.warmed, X', hpost, fun target h => hstep₁ _ fun acts => by rw [doInvoke_state]; exact hsteps.trans h⟩
  · exact Or.inr ⟨q, vm₁, B, X₁.warmed, X', hpost, hstep₁ _ fun acts => by rw [doInvoke_state]; exact hsteps⟩
theorem vx_callVW (X : Stand p l e R s m args below meth c T locs cells slots) (hexec : p.tables.exec = Jvm.exec) {own C : String} {index : Nat} {y : MethodName} {bytes : ByteArray} {maxL : Nat} {ret : Option FieldType} {hh : List (Nat × Nat × Nat × Nat)}
    (hown : s.vm.findClass own = some m.cls) (hlink : (Cond.methodLink own index y).before args s = true) (hinst : (Cond.instanceMethod y).before args s = true) (hsel : (Cond.selects C y y).before args s = true)
    (hcode : (Cond.codeWith y bytes maxL ret hh).before args s = true) (hy : y.cls ≠ "java/lang/invoke/MethodHandle" ∧ y.cls ≠ "java/lang/invoke/VarHandle")
    {W9 : Nat} {Pre : Pt → Array Value → Prop} {Post : Pt → Array Value → Option Value → Pt → Prop} (hK : Back l R p e below s args y 3 W9 Pre Post)
    {b : Addr} {cellB : Cell} (hcell : T.heap[b]? = some cellB) (hobj : cellB.vm.isStatics = false) (hcls : s.vm.findClass C = some cellB.cls)
    {g : JFrame} (hg : g.method = m) (hsize : g.locals.size = c.maxLocals) {argsL rest : List Value} (hlen : ∀ sig, parseMethodDescriptor y.desc = some sig → argsL.length = sig.parameters.length)
    (hstack : g.stack = argsL.reverse ++ .ref b :: rest) (hW : 2 * g.monitorRoom + (rest.map fun v => v.category).sum ≤ W9) (hdg : decode c.code g.pc = .ok (.invokevirtual index, 3))
    (hpre : ∀ vm₁, s.WarmedH vm₁ → Pre ⟨T.setVm vm₁, locs, cells, slots⟩ (Value.ref b :: argsL).toArray) :
    ∃ (v : Option Value) (vm₁ : Vm) (B : Pt), s.WarmedH vm₁ ∧ Stand p l e R s m args below meth c B.U B.locs B.cells B.slots ∧ Post ⟨T.setVm vm₁, locs, cells, slots⟩ (Value.ref b :: argsL).toArray v B ∧
      ∀ target, Steps p.tables e below (B.U.setTop { g with pc := g.pc + 3, stack := v.toList ++ rest }) target → Steps p.tables e below (T.setTop g) target := by
  obtain ⟨mk, methM, hnamed, hmethM, hstM, habM⟩ := Cond.instanceMethod_spec hinst
  obtain ⟨m8, methM', cM, hn8, hmethM', -, -, -, -, -, -, hsigM⟩ := Cond.codeWith_spec hcode
  cases Option.some.inj (hn8.symm.trans hnamed)
  cases hmethM.symm.trans hmethM'
  obtain ⟨c2, r2, m2, q1, q2, q3, q4, kP, hkP, hkPi⟩ := Cond.selects_spec hsel
  cases hcls.symm.trans q1
  cases (State.methodFound?_of_named hnamed hy).symm.trans q2
  cases hnamed.symm.trans q3
  have hselP : selectMethod e.platform s.vm cellB.cls mk = .method mk := by rw [Launch.admits_selectMethod X.admits]; exact q4
  obtain ⟨vm₁, X₁, hstep₁⟩ := X.invokevirtual hexec hown hlink hnamed hmethM hstM hkP hkPi hy (a := b) (cell := cellB) hcell
    (fun z h => by rw [h] at hobj; cases hobj) hselP hmethM habM hkP hkPi (g := g) hg (argsL := argsL) (rest := rest) (hlen _ hsigM) hstack hdg
  obtain ⟨v, B, X', hpost, hsteps⟩ := hK m meth c ⟨T.setVm vm₁, locs, cells, slots⟩ { g with stack := rest } (.invokevirtual index) mk (Value.ref b :: argsL).toArray X₁ hg hsize hdg hW (X₁.named hnamed) (hpre vm₁ X₁.warmed)
  exact ⟨v, vm₁, B, X₁.warmed, X', hpost, fun target h => hstep₁ _ fun acts => by rw [doInvoke_state]; exact hsteps.trans h⟩
abbrev vx_CVW (R : Room) (s : State) (args : Array Value) (own C : String) (index : Nat) (y : MethodName) (bytes : ByteArray) (maxL : Nat) (ret : Option FieldType) (hh : List (Nat × Nat × Nat × Nat)) (ws : List Cond) (rm : Room) (mc ms n : Nat) : Prop :=
  (rm.cells = mc ∧ rm.slots = ms ∧ rm.frames + 1 ≤ R.frames ∧ 8 + (maxL + 11) + rm.locals ≤ R.locals ∧ (∀ w ∈ ws, ∀ (a' : Array Value) (U : State), s.WarmedH U.vm → w.before a' U = true) ∧ Cond.codeWith y bytes maxL ret hh ∈ ws) ∧
  (Cond.codeWith y bytes maxL ret hh).before args s = true ∧ (Cond.initialized y.cls).before args s = true ∧ (y.cls ≠ "java/lang/invoke/MethodHandle" ∧ y.cls ≠ "java/lang/invoke/VarHandle") ∧
  (∀ sig, parseMethodDescriptor y.desc = some sig → n = sig.parameters.length) ∧ (Cond.methodLink own index y).before args s = true ∧ (Cond.instanceMethod y).before args s = true ∧ (Cond.selects C y y).before args s = true
theorem vx_cwVW {own C : String} {index maxL mc ms : Nat} {y : MethodName} {bytes : ByteArray} {ret : Option FieldType} {hh : List (Nat × Nat × Nat × Nat)} {Ts ws ws' : List Cond} {rm : Room} (n : Nat) (ht : ∀ w ∈ Ts, w.before args s = true) (hT : GoodIn Ts (wsV own index C y ws)) (hw : ws = Cond.codeWith y bytes maxL ret hh :: ws') (hrc : rm.cells = mc) (hrs : rm.slots = ms)
    (hd : y.cls = C ∧ y.cls ≠ "java/lang/invoke/MethodHandle" ∧ y.cls ≠ "java/lang/invoke/VarHandle" ∧ (parseMethodDescriptor y.desc).map (fun d => d.parameters.length) = some n) (hR : rm.frames + 1 ≤ R.frames ∧ 8 + (maxL + 11) + rm.locals ≤ R.locals) :
    vx_CVW R s args own C index y bytes maxL ret hh ws rm mc ms n := by
  obtain ⟨hC, hd⟩ := hd
  subst hC
  have ok : ∀ w ∈ wsV own index y.cls y ws, w.before args s = true := fun w h => ht w (hT w h).1
  have hG : GoodIn Ts ws := fun w h => hT w (by unfold wsV; exact List.mem_append_right _ h)
  have hc : Cond.codeWith y bytes maxL ret hh ∈ ws := by rw [hw]; exact List.mem_cons_self
  refine ⟨⟨hrc, hrs, hR.1, hR.2, pay_in ht hG, hc⟩, ht _ (hG _ hc).1, ok _ (by simp [wsV]), ⟨hd.1, hd.2.1⟩, fun sig h => ?_, ok _ (by simp [wsV]), ok _ (by simp [wsV]), ok _ (by simp [wsV])⟩
  have h2 := hd.2.2
  rw [h] at h2
  exact (Option.some.inj h2).symm
theorem vx_runVW {y : MethodName} {bytes cc : ByteArray} {maxL nL mc ms n index : Nat} {ret : Option FieldType} {hh : List (Nat × Nat × Nat × Nat)} {ws : List Cond} {rm : Room} {Pc : Array Value → State → Prop} {Qc : Array Value → State → Outcome → State → Prop} {free : Addr → Prop} {Ts : List Cond} {own C : String} {b : Addr} {As rest : List Value} {g : JFrame}
    (S : CallFix p m c cc nL s args Ts own) (hM : Met l y ws rm Pc Qc mc ms free) (cw : vx_CVW R s args own C index y bytes maxL ret hh ws rm mc ms n) (hp : PreV s H C b Pc As)
    (hg : g.method = m) (hn : As.length = n) (hsize : g.locals.size = nL) (hstack : g.stack = As.reverse ++ .ref b :: rest) (hW : 2 * g.monitorRoom + (rest.map fun v => v.category).sum ≤ 8) (hdg : decode cc g.pc = .ok (.invokevirtual index, 3)) (hf : cells + mc ≤ R.cells ∧ slots + ms ≤ R.slots) :
    va_Run p l e R s m args below meth c H locs cells slots mc ms g rest (Qc (Value.ref b :: As).toArray) free := by
  obtain ⟨⟨hrc, hrs, hfr, hlo, hws, hcw⟩, hcode, hini, hy, hlen, hl, hin, hse⟩ := cw
  have hK : Back l R p e below s args y 3 8 (PreOf R mc ms Pc) (PostOf Qc mc ms free) := va_backW (hh := hh) (bytes := bytes) (maxL := maxL) (ret := ret) hM hp.1 hrc hrs hfr hlo hws hcw (fun a' U hW => word_at hW (Or.inl (by first | rfl | simp [Cond.onTables, Cond.keeps, Cond.steady])) hini)
  obtain ⟨hx, hb, hml, ho, -⟩ := S
  obtain ⟨-, ⟨cellB, hcB, hoB, hclB⟩, hPc⟩ := hp
  intro T hT X
  obtain ⟨v, vm₁, ⟨U', l2, c2, s2⟩, hW₁, X', ⟨g', mk, t, L, e1, e2, hq, h1, hL, h2, h3⟩, st⟩ := vx_callVW X hx (C := C) (hh := hh) (bytes := bytes) (maxL := maxL) (ret := ret) ho hl hin hse hcode hy hK (by rw [hT]; exact hcB) hoB hclB hg (hsize.trans hml.symm) (argsL := As) (rest := rest) (fun sig h => hn.trans (hlen sig h)) hstack hW (by rw [hb]; exact hdg)
    (fun vm₁ hW₁ => ⟨hf.1, hf.2, hPc (T.setVm vm₁) hT hW₁⟩)
  dsimp only [Pt.U, Pt.locs, Pt.cells, Pt.slots] at X' e1 e2 h1 h2 h3 st
  subst h1; subst h2; subst h3
  exact ⟨v, (T.setVm vm₁).calling g' mk (Value.ref b :: As).toArray, t, U', L, hT, X', hL, e1, e2, hq, st⟩
section
variable {y : MethodName} {bytes cc : ByteArray} {maxL nL mc ms n index : Nat} {ret : Option FieldType} {ws : List Cond} {rm : Room} {Pc : Array Value → State → Prop} {Qc : Array Value → State → Outcome → State → Prop} {XC : String → State → State → Prop} {free : Addr → Prop} {Ts : List Cond} {own C : String} {b : Addr} {As rest : List Value} {g : JFrame}
theorem vx_runVX {hh : List (Nat × Nat × Nat × Nat)} (S : CallFix p m c cc nL s args Ts own) (hM : vx_Met l y ws rm Pc Qc XC mc ms free) (cw : vx_CVW R s args own C index y bytes maxL ret hh ws rm mc ms n) (hp : PreV s H C b Pc As)
    (hg : g.method = m) (hn : As.length = n) (hsize : g.locals.size = nL) (hstack : g.stack = As.reverse ++ .ref b :: rest) (hW : 2 * g.monitorRoom + (rest.map fun v => v.category).sum ≤ 8) (hdg : decode cc g.pc = .ok (.invokevirtual index, 3)) (hf : cells + mc ≤ R.cells ∧ slots + ms ≤ R.slots) :
    vx_Run p l e R s m args below meth c H locs cells slots mc ms g rest (Qc (Value.ref b :: As).toArray) XC free := by
  obtain ⟨⟨hrc, hrs, hfr, hlo, hws, hcw⟩, hcode, hini, hy, hlen, hl, hin, hse⟩ := cw
  have hK : vx_Back l R p e below s args y 3 8 (PreOf R mc ms Pc) (PostOf Qc mc ms free) (vx_Post XC mc ms free) := vx_backW (hh := hh) (bytes := bytes) (maxL := maxL) (ret := ret) hM hp.1 hrc hrs hfr hlo hws hcw (fun a' U hW => word_at hW (Or.inl (by first | rfl | simp [Cond.onTables, Cond.keeps, Cond.steady])) hini)
  obtain ⟨hx, hb, hml, ho, -⟩ := S
  obtain ⟨-, ⟨cellB, hcB, hoB, hclB⟩, hPc⟩ := hp
  intro T hT X
  rcases vx_callVX X hx (C := C) (hh := hh) (bytes := bytes) (maxL := maxL) (ret := ret) ho hl hin hse hcode hy hK (by rw [hT]; exact hcB) hoB hclB hg (hsize.trans hml.symm) (argsL := As) (rest := rest) (fun sig h => hn.trans (hlen sig h)) hstack hW (by rw [hb]; exact hdg)
    (fun vm₁ hW₁ => ⟨hf.1, hf.2, hPc (T.setVm vm₁) hT hW₁⟩) with ⟨v, vm₁, ⟨U', l2, c2, s2⟩, hW₁, X', ⟨g', mk, t, L, e1, e2, hq, h1, hL, h2, h3⟩, st⟩ | ⟨q, vm₁, ⟨U', l2, c2, s2⟩, hW₁, X', ⟨g', mk, t, L, E, ce, e1, e2, hq, hce, hcv, hcl, h1, hL, h2, h3⟩, st⟩
  · dsimp only [Pt.U, Pt.locs, Pt.cells, Pt.slots] at X' e1 e2 h1 h2 h3 st
    subst h1; subst h2; subst h3
    exact Or.inl ⟨v, (T.setVm vm₁).calling g' mk (Value.ref b :: As).toArray, t, U', L, hT, X', hL, e1, e2, hq, st⟩
  · dsimp only [Pt.U, Pt.locs, Pt.cells, Pt.slots] at X' e1 e2 h1 h2 h3 st hcl
    subst h1; subst h2; subst h3
    exact Or.inr ⟨q, (T.setVm vm₁).calling g' mk (Value.ref b :: As).toArray, t, U', L, E, ce, hT, X', hL, e1, e2, hq, hce, hcv, vx_cls hW₁ hcl, st⟩
theorem vx_runSX {hh : List (Nat × Nat × Nat × Nat)} (S : CallFix p m c cc nL s args Ts own) (hM : vx_Met l y ws rm Pc Qc XC mc ms free) (cw : vx_CSW R s args own index y bytes maxL ret hh ws rm mc ms n) (hp : PreS s H Pc As)
    (hg : g.method = m) (hn : As.length = n) (hsize : g.locals.size = nL) (hstack : g.stack = As.reverse ++ rest) (hW : 2 * g.monitorRoom + (rest.map fun v => v.category).sum ≤ 8) (hdg : decode cc g.pc = .ok (.invokestatic index, 3)) (hf : cells + mc ≤ R.cells ∧ slots + ms ≤ R.slots) :
    vx_Run p l e R s m args below meth c H locs cells slots mc ms g rest (Qc As.toArray) XC free := by
  obtain ⟨⟨hrc, hrs, hfr, hlo, hws, hcw⟩, hcode, hini, hy, hlen, hl, hstt⟩ := cw
  have hK : vx_Back l R p e below s args y 3 8 (PreOf R mc ms Pc) (PostOf Qc mc ms free) (vx_Post XC mc ms free) := vx_backW (hh := hh) (bytes := bytes) (maxL := maxL) (ret := ret) hM hp.1 hrc hrs hfr hlo hws hcw (fun a' U hW => word_at hW (Or.inl (by first | rfl | simp [Cond.onTables, Cond.keeps, Cond.steady])) hini)
  obtain ⟨hx, hb, hml, ho, -⟩ := S
  intro T hT X
  rcases vx_callSX X hx (hh := hh) (bytes := bytes) (maxL := maxL) (ret := ret) ho hl hstt hini hcode hy hK hg (hsize.trans hml.symm) (argsL := As) (rest := rest) (fun sig h => hn.trans (hlen sig h)) hstack hW (by rw [hb]; exact hdg)
    (fun vm₁ hW₁ => ⟨hf.1, hf.2, hp.2 (T.setVm vm₁) hT hW₁⟩) with ⟨v, vm₁, ⟨U', l2, c2, s2⟩, hW₁, X', ⟨g', mk, t, L, e1, e2, hq, h1, hL, h2, h3⟩, st⟩ | ⟨q, vm₁, ⟨U', l2, c2, s2⟩, hW₁, X', ⟨g', mk, t, L, E, ce, e1, e2, hq, hce, hcv, hcl, h1, hL, h2, h3⟩, st⟩
  · dsimp only [Pt.U, Pt.locs, Pt.cells, Pt.slots] at X' e1 e2 h1 h2 h3 st
    subst h1; subst h2; subst h3
    exact Or.inl ⟨v, (T.setVm vm₁).calling g' mk As.toArray, t, U', L, hT, X', hL, e1, e2, hq, st⟩
  · dsimp only [Pt.U, Pt.locs, Pt.cells, Pt.slots] at X' e1 e2 h1 h2 h3 st hcl
    subst h1; subst h2; subst h3
    exact Or.inr ⟨q, (T.setVm vm₁).calling g' mk As.toArray, t, U', L, E, ce, hT, X', hL, e1, e2, hq, hce, hcv, vx_cls hW₁ hcl, st⟩
end
end VXH
theorem vx_ofWH {l : Launch} {y : MethodName} {ws ws' : List Cond} {rm : Room} {Pc : Array Value → State → Prop} {Qc : Array Value → State → Outcome → State → Prop} {XC : String → State → State → Prop} {mc ms : Nat} {free : Addr → Prop} {cc : ByteArray} {maxL : Nat} {ret : Option FieldType} {hh : List (Nat × Nat × Nat × Nat)}
    (hy : plainName y.cls = true) (hw : ws = Cond.codeWith y cc maxL ret hh :: ws')
    (body : ∀ p e s m args below meth c s₁, BodyLoose p l y (headSpec ws rm) cc maxL ret e s m args below meth c s₁ → c.maxLocals = maxL → Pc args s →
      W p l e (headSpec ws rm).room s m args below meth c s.heap [] 0 0 (vx_MQ below Qc XC args s mc ms free) (entryFrame m args maxL)) : vx_Met l y ws rm Pc Qc XC mc ms free := by
  refine MetFree.of_bodyS (code := cc) (maxLocals := maxL) (ret := ret) hy ?_ ?_
  · intro args s m h hn
    obtain ⟨m9, meth, c, hn9, h1, h2, h3, h4, -, h5, h6, -⟩ := Cond.codeWith_spec (atoms_spec (ws := ws) h _ (by rw [hw]; exact List.mem_cons_self))
    cases hn.symm.trans hn9
    exact ⟨meth, c, h1, h2, h3, h4, h5, h6⟩
  · intro p e s m args below meth c s₁ B hml hP _
    have hh0 : s₁.heap = s.heap := by rw [B.state]; rfl
    obtain ⟨t, a1, o, b1, b2, b3⟩ := body p e s m args below meth c s₁ B hml hP s₁ hh0 (Stand.of_body B)
    exact ⟨t, o, a1, b1, b2, b3⟩
/-! ===== END ===== -/
end
section
/-! ===== BEGIN printed: names, fields, word lists, decode rows ===== -/
def RX0 : String := "UmbrellaLand$Citizen"
def TX0 : u_T := fun k => match k with
  | 0 => ("UmbrellaLand$Citizen", "home", "I", false)
  | 1 => ("UmbrellaLand$Citizen", "work", "I", false)
  | 2 => ("UmbrellaLand$Citizen", "leaves", "I", false)
  | 3 => ("UmbrellaLand$Citizen", "returns", "I", false)
  | 4 => ("UmbrellaLand$Citizen", "forgets", "I", false)
  | 5 => ("UmbrellaLand$Citizen", "hoursOfWalk", "I", false)
  | 6 => ("UmbrellaLand$Citizen", "stays", "I", false)
  | 7 => ("UmbrellaLand$Citizen", "goal", "I", false)
  | 8 => ("UmbrellaLand$Citizen", "hoursToWalk", "I", false)
  | 9 => ("UmbrellaLand$Citizen", "inHand", "I", false)
  | 10 => ("UmbrellaLand$Citizen", "trust", "I", false)
  | 11 => ("UmbrellaLand$Citizen", "wet", "I", false)
  | 12 => ("UmbrellaLand$Citizen", "taken", "I", false)
  | 13 => ("UmbrellaLand$Citizen", "forgotten", "I", false)
  | _ => ("UmbrellaLand$Citizen", "refused", "I", false)
def tyX0 : Nat → FieldType := fun k => match k with
  | 0 => .int
  | 1 => .int
  | 2 => .int
  | 3 => .int
  | 4 => .int
  | 5 => .int
  | 6 => .int
  | 7 => .int
  | 8 => .int
  | 9 => .int
  | 10 => .int
  | 11 => .int
  | 12 => .int
  | 13 => .int
  | _ => .int
abbrev wsX00 : List Cond := u_ws RX0 TX0 15
theorem nmX0 : ∀ a, a < 15 → ∀ b, b < 15 → a ≠ b → (TX0 a).2.1 ≠ (TX0 b).2.1 := by decide +kernel
theorem tyX0_ok : ∀ k, k < 15 → parseFieldDescriptor (TX0 k).2.2.1 = some (tyX0 k) := by decide +kernel
abbrev cX0_init : ByteArray := prog_2_method_1_code
def yX0_init : MethodName := ⟨RX0, "<init>", "()V"⟩
abbrev cX0_settle : ByteArray := prog_2_method_2_code
def yX0_settle : MethodName := ⟨RX0, "settle", "(III)V"⟩
abbrev cX0_becomeLike : ByteArray := prog_2_method_3_code
def yX0_becomeLike : MethodName := ⟨RX0, "becomeLike", "(LUmbrellaLand$Citizen;)V"⟩
abbrev cX0_leavesAt : ByteArray := prog_2_method_4_code
def yX0_leavesAt : MethodName := ⟨RX0, "leavesAt", "(I)Z"⟩
abbrev cX0_setOut : ByteArray := prog_2_method_5_code
def yX0_setOut : MethodName := ⟨RX0, "setOut", "()V"⟩
abbrev cX0_forgetsThisOne : ByteArray := prog_2_method_6_code
def yX0_forgetsThisOne : MethodName := ⟨RX0, "forgetsThisOne", "()Z"⟩
abbrev cX0_noteForgotten : ByteArray := prog_2_method_7_code
def yX0_noteForgotten : MethodName := ⟨RX0, "noteForgotten", "()V"⟩
abbrev cX0_noteBroughtBack : ByteArray := prog_2_method_8_code
def yX0_noteBroughtBack : MethodName := ⟨RX0, "noteBroughtBack", "()V"⟩
abbrev cX0_tell : ByteArray := prog_2_method_9_code
def yX0_tell : MethodName := ⟨RX0, "tell", "(I)I"⟩
def RX1 : String := "UmbrellaLand$Republic"
def TX1 : u_T := fun k => match k with
  | 0 => ("UmbrellaLand$Republic", "rain", "[I", true)
  | 1 => ("UmbrellaLand$Republic", "shelters", "[LUmbrellaLand$Shelter;", true)
  | 2 => ("UmbrellaLand$Republic", "umbrellas", "[LUmbrellaLand$Umbrella;", true)
  | 3 => ("UmbrellaLand$Republic", "citizens", "[LUmbrellaLand$Citizen;", true)
  | 4 => ("UmbrellaLand$Republic", "hour", "I", false)
  | 5 => ("UmbrellaLand$Republic", "shelterCount", "I", false)
  | 6 => ("UmbrellaLand$Republic", "umbrellaCount", "I", false)
  | 7 => ("UmbrellaLand$Republic", "citizenCount", "I", false)
  | _ => ("UmbrellaLand$Republic", "carried", "I", false)
def tyX1 : Nat → FieldType := fun k => match k with
  | 0 => .array .int
  | 1 => .array (.object "UmbrellaLand$Shelter")
  | 2 => .array (.object "UmbrellaLand$Umbrella")
  | 3 => .array (.object "UmbrellaLand$Citizen")
  | 4 => .int
  | 5 => .int
  | 6 => .int
  | 7 => .int
  | _ => .int
abbrev wsX10 : List Cond := u_ws RX1 TX1 9
theorem nmX1 : ∀ a, a < 9 → ∀ b, b < 9 → a ≠ b → (TX1 a).2.1 ≠ (TX1 b).2.1 := by decide +kernel
theorem tyX1_ok : ∀ k, k < 9 → parseFieldDescriptor (TX1 k).2.2.1 = some (tyX1 k) := by decide +kernel
abbrev cX1_init : ByteArray := prog_3_method_1_code
def yX1_init : MethodName := ⟨RX1, "<init>", "()V"⟩
abbrev cX1_becomeLike : ByteArray := prog_3_method_2_code
def yX1_becomeLike : MethodName := ⟨RX1, "becomeLike", "(LUmbrellaLand$Republic;)V"⟩
abbrev cX1_isShelter : ByteArray := prog_3_method_3_code
def yX1_isShelter : MethodName := ⟨RX1, "isShelter", "(I)Z"⟩
abbrev cX1_isUmbrella : ByteArray := prog_3_method_4_code
def yX1_isUmbrella : MethodName := ⟨RX1, "isUmbrella", "(I)Z"⟩
abbrev cX1_isCitizen : ByteArray := prog_3_method_5_code
def yX1_isCitizen : MethodName := ⟨RX1, "isCitizen", "(I)Z"⟩
abbrev cX1_isBuiltOn : ByteArray := prog_3_method_6_code
def yX1_isBuiltOn : MethodName := ⟨RX1, "isBuiltOn", "(I)Z"⟩
abbrev cX1_addShelter : ByteArray := prog_3_method_7_code
def yX1_addShelter : MethodName := ⟨RX1, "addShelter", "(II)I"⟩
abbrev cX1_addUmbrella : ByteArray := prog_3_method_8_code
def yX1_addUmbrella : MethodName := ⟨RX1, "addUmbrella", "(I)V"⟩
abbrev cX1_addPerson : ByteArray := prog_3_method_9_code
def yX1_addPerson : MethodName := ⟨RX1, "addPerson", "(IIIII)I"⟩
abbrev cX1_hoursBetween : ByteArray := prog_3_method_10_code
def yX1_hoursBetween : MethodName := ⟨RX1, "hoursBetween", "(II)I"⟩
abbrev cX1_letGoBy : ByteArray := prog_3_method_11_code
def yX1_letGoBy : MethodName := ⟨RX1, "letGoBy", "(I)I"⟩
abbrev cX1_letUmbrellasWait : ByteArray := prog_3_method_12_code
def yX1_letUmbrellasWait : MethodName := ⟨RX1, "letUmbrellasWait", "()V"⟩
abbrev cX1_letCitizensLeave : ByteArray := prog_3_method_13_code
def yX1_letCitizensLeave : MethodName := ⟨RX1, "letCitizensLeave", "(I)I"⟩
abbrev cX1_takeUmbrella : ByteArray := prog_3_method_14_code
def yX1_takeUmbrella : MethodName := ⟨RX1, "takeUmbrella", "(I)Z"⟩
abbrev cX1_letCitizensWalk : ByteArray := prog_3_method_15_code
def yX1_letCitizensWalk : MethodName := ⟨RX1, "letCitizensWalk", "(I)V"⟩
abbrev cX1_meetRain : ByteArray := prog_3_method_16_code
def yX1_meetRain : MethodName := ⟨RX1, "meetRain", "(LUmbrellaLand$Citizen;I)V"⟩
abbrev cX1_arrive : ByteArray := prog_3_method_17_code
def yX1_arrive : MethodName := ⟨RX1, "arrive", "(LUmbrellaLand$Citizen;)V"⟩
abbrev cX1_driveCart : ByteArray := prog_3_method_18_code
def yX1_driveCart : MethodName := ⟨RX1, "driveCart", "()V"⟩
abbrev cX1_endDay : ByteArray := prog_3_method_19_code
def yX1_endDay : MethodName := ⟨RX1, "endDay", "()V"⟩
abbrev cX1_firstUmbrellaIn : ByteArray := prog_3_method_20_code
def yX1_firstUmbrellaIn : MethodName := ⟨RX1, "firstUmbrellaIn", "(I)I"⟩
abbrev cX1_umbrellasIn : ByteArray := prog_3_method_21_code
def yX1_umbrellasIn : MethodName := ⟨RX1, "umbrellasIn", "(I)I"⟩
abbrev cX1_citizensIn : ByteArray := prog_3_method_22_code
def yX1_citizensIn : MethodName := ⟨RX1, "citizensIn", "(I)I"⟩
abbrev cX1_umbrellasThatAre : ByteArray := prog_3_method_23_code
def yX1_umbrellasThatAre : MethodName := ⟨RX1, "umbrellasThatAre", "(I)I"⟩
abbrev cX1_wetOfAll : ByteArray := prog_3_method_24_code
def yX1_wetOfAll : MethodName := ⟨RX1, "wetOfAll", "()I"⟩
abbrev cX1_trustOfAll : ByteArray := prog_3_method_25_code
def yX1_trustOfAll : MethodName := ⟨RX1, "trustOfAll", "()I"⟩
abbrev cX1_tellShelter : ByteArray := prog_3_method_26_code
def yX1_tellShelter : MethodName := ⟨RX1, "tellShelter", "(II)I"⟩
abbrev cX1_tellAll : ByteArray := prog_3_method_27_code
def yX1_tellAll : MethodName := ⟨RX1, "tellAll", "(I)I"⟩
def RX2 : String := "UmbrellaLand$Shelter"
def TX2 : u_T := fun k => match k with
  | 0 => ("UmbrellaLand$Shelter", "place", "I", false)
  | 1 => ("UmbrellaLand$Shelter", "demand", "I", false)
  | 2 => ("UmbrellaLand$Shelter", "taken", "I", false)
  | 3 => ("UmbrellaLand$Shelter", "forgotten", "I", false)
  | 4 => ("UmbrellaLand$Shelter", "refused", "I", false)
  | 5 => ("UmbrellaLand$Shelter", "forgottenToday", "I", false)
  | _ => ("UmbrellaLand$Shelter", "refusedToday", "I", false)
def tyX2 : Nat → FieldType := fun k => match k with
  | 0 => .int
  | 1 => .int
  | 2 => .int
  | 3 => .int
  | 4 => .int
  | 5 => .int
  | _ => .int
abbrev wsX20 : List Cond := u_ws RX2 TX2 7
theorem nmX2 : ∀ a, a < 7 → ∀ b, b < 7 → a ≠ b → (TX2 a).2.1 ≠ (TX2 b).2.1 := by decide +kernel
theorem tyX2_ok : ∀ k, k < 7 → parseFieldDescriptor (TX2 k).2.2.1 = some (tyX2 k) := by decide +kernel
abbrev cX2_init : ByteArray := prog_4_method_1_code
def yX2_init : MethodName := ⟨RX2, "<init>", "()V"⟩
abbrev cX2_open : ByteArray := prog_4_method_2_code
def yX2_open : MethodName := ⟨RX2, "open", "(II)V"⟩
abbrev cX2_becomeLike : ByteArray := prog_4_method_3_code
def yX2_becomeLike : MethodName := ⟨RX2, "becomeLike", "(LUmbrellaLand$Shelter;)V"⟩
abbrev cX2_noteRefusal : ByteArray := prog_4_method_4_code
def yX2_noteRefusal : MethodName := ⟨RX2, "noteRefusal", "()V"⟩
abbrev cX2_noteForgotten : ByteArray := prog_4_method_5_code
def yX2_noteForgotten : MethodName := ⟨RX2, "noteForgotten", "()V"⟩
abbrev cX2_endDay : ByteArray := prog_4_method_6_code
def yX2_endDay : MethodName := ⟨RX2, "endDay", "()V"⟩
def RX3 : String := "UmbrellaLand$Umbrella"
def TX3 : u_T := fun k => match k with
  | 0 => ("UmbrellaLand$Umbrella", "state", "I", false)
  | 1 => ("UmbrellaLand$Umbrella", "holder", "I", false)
  | 2 => ("UmbrellaLand$Umbrella", "wear", "I", false)
  | 3 => ("UmbrellaLand$Umbrella", "waits", "I", false)
  | 4 => ("UmbrellaLand$Umbrella", "taken", "I", false)
  | _ => ("UmbrellaLand$Umbrella", "takenFrom", "I", false)
def tyX3 : Nat → FieldType := fun k => match k with
  | 0 => .int
  | 1 => .int
  | 2 => .int
  | 3 => .int
  | 4 => .int
  | _ => .int
abbrev wsX30 : List Cond := u_ws RX3 TX3 6
theorem nmX3 : ∀ a, a < 6 → ∀ b, b < 6 → a ≠ b → (TX3 a).2.1 ≠ (TX3 b).2.1 := by decide +kernel
theorem tyX3_ok : ∀ k, k < 6 → parseFieldDescriptor (TX3 k).2.2.1 = some (tyX3 k) := by decide +kernel
abbrev cX3_init : ByteArray := prog_5_method_1_code
def yX3_init : MethodName := ⟨RX3, "<init>", "()V"⟩
abbrev cX3_beNewIn : ByteArray := prog_5_method_2_code
def yX3_beNewIn : MethodName := ⟨RX3, "beNewIn", "(I)V"⟩
abbrev cX3_becomeLike : ByteArray := prog_5_method_3_code
def yX3_becomeLike : MethodName := ⟨RX3, "becomeLike", "(LUmbrellaLand$Umbrella;)V"⟩
abbrev cX3_standsIn : ByteArray := prog_5_method_4_code
def yX3_standsIn : MethodName := ⟨RX3, "standsIn", "(I)Z"⟩
abbrev cX3_standIn : ByteArray := prog_5_method_5_code
def yX3_standIn : MethodName := ⟨RX3, "standIn", "(I)V"⟩
abbrev cX3_goWith : ByteArray := prog_5_method_6_code
def yX3_goWith : MethodName := ⟨RX3, "goWith", "(I)V"⟩
abbrev cX3_stayAway : ByteArray := prog_5_method_7_code
def yX3_stayAway : MethodName := ⟨RX3, "stayAway", "(II)V"⟩
abbrev cX3_waitAnHour : ByteArray := prog_5_method_8_code
def yX3_waitAnHour : MethodName := ⟨RX3, "waitAnHour", "()V"⟩
abbrev cX3_tell : ByteArray := prog_5_method_9_code
def yX3_tell : MethodName := ⟨RX3, "tell", "(I)I"⟩
def RX4 : String := "UmbrellaLand"
def TX4 : u_T := fun k => match k with
  | 0 => ("UmbrellaLand", "now", "LUmbrellaLand$Republic;", true)
  | _ => ("UmbrellaLand", "ahead", "LUmbrellaLand$Republic;", true)
def tyX4 : Nat → FieldType := fun k => match k with
  | 0 => .object "UmbrellaLand$Republic"
  | _ => .object "UmbrellaLand$Republic"
abbrev wsX40 : List Cond := u_ws RX4 TX4 2
theorem nmX4 : ∀ a, a < 2 → ∀ b, b < 2 → a ≠ b → (TX4 a).2.1 ≠ (TX4 b).2.1 := by decide +kernel
theorem tyX4_ok : ∀ k, k < 2 → parseFieldDescriptor (TX4 k).2.2.1 = some (tyX4 k) := by decide +kernel
abbrev cX4_init : ByteArray := prog_1_method_1_code
def yX4_init : MethodName := ⟨RX4, "<init>", "()V"⟩
abbrev cX4_build : ByteArray := prog_1_method_2_code
def yX4_build : MethodName := ⟨RX4, "build", "(II)I"⟩
abbrev cX4_bring : ByteArray := prog_1_method_3_code
def yX4_bring : MethodName := ⟨RX4, "bring", "(II)I"⟩
abbrev cX4_addCitizen : ByteArray := prog_1_method_4_code
def yX4_addCitizen : MethodName := ⟨RX4, "addCitizen", "(IIIII)I"⟩
abbrev cX4_setRain : ByteArray := prog_1_method_5_code
def yX4_setRain : MethodName := ⟨RX4, "setRain", "(II)I"⟩
abbrev cX4_setDemand : ByteArray := prog_1_method_6_code
def yX4_setDemand : MethodName := ⟨RX4, "setDemand", "(II)I"⟩
abbrev cX4_shelter : ByteArray := prog_1_method_7_code
def yX4_shelter : MethodName := ⟨RX4, "shelter", "(II)I"⟩
abbrev cX4_umbrella : ByteArray := prog_1_method_8_code
def yX4_umbrella : MethodName := ⟨RX4, "umbrella", "(II)I"⟩
abbrev cX4_citizen : ByteArray := prog_1_method_9_code
def yX4_citizen : MethodName := ⟨RX4, "citizen", "(II)I"⟩
abbrev cX4_count : ByteArray := prog_1_method_10_code
def yX4_count : MethodName := ⟨RX4, "count", "(I)I"⟩
abbrev cX4_pass : ByteArray := prog_1_method_11_code
def yX4_pass : MethodName := ⟨RX4, "pass", "(I)I"⟩
abbrev cX4_foresee : ByteArray := prog_1_method_12_code
def yX4_foresee : MethodName := ⟨RX4, "foresee", "(II)I"⟩
abbrev cX4_advise : ByteArray := prog_1_method_13_code
def yX4_advise : MethodName := ⟨RX4, "advise", "(I)I"⟩
abbrev cX4_wouldGet : ByteArray := prog_1_method_14_code
def yX4_wouldGet : MethodName := ⟨RX4, "wouldGet", "(II)Z"⟩
abbrev cX4_lasts : ByteArray := prog_1_method_15_code
def yX4_lasts : MethodName := ⟨RX4, "lasts", "(II)I"⟩
abbrev cX4_trust : ByteArray := prog_1_method_16_code
def yX4_trust : MethodName := ⟨RX4, "trust", "()D"⟩
abbrev cX4_digest : ByteArray := prog_1_method_17_code
def yX4_digest : MethodName := ⟨RX4, "digest", "()J"⟩
abbrev cX4_wetAfter : ByteArray := prog_1_method_18_code
def yX4_wetAfter : MethodName := ⟨RX4, "wetAfter", "(II)I"⟩
abbrev cX4_checkShelter : ByteArray := prog_1_method_19_code
def yX4_checkShelter : MethodName := ⟨RX4, "checkShelter", "(I)V"⟩
abbrev cX4_checkUmbrella : ByteArray := prog_1_method_20_code
def yX4_checkUmbrella : MethodName := ⟨RX4, "checkUmbrella", "(I)V"⟩
abbrev cX4_checkCitizen : ByteArray := prog_1_method_21_code
def yX4_checkCitizen : MethodName := ⟨RX4, "checkCitizen", "(I)V"⟩
abbrev cX4_checkWhat : ByteArray := prog_1_method_22_code
def yX4_checkWhat : MethodName := ⟨RX4, "checkWhat", "(II)V"⟩
abbrev cX4_checkHourOfDay : ByteArray := prog_1_method_23_code
def yX4_checkHourOfDay : MethodName := ⟨RX4, "checkHourOfDay", "(I)V"⟩
abbrev cX4_checkHours : ByteArray := prog_1_method_24_code
def yX4_checkHours : MethodName := ⟨RX4, "checkHours", "(II)V"⟩
abbrev cX4_isHourOfDay : ByteArray := prog_1_method_25_code
def yX4_isHourOfDay : MethodName := ⟨RX4, "isHourOfDay", "(I)Z"⟩
abbrev cX4_isWithin : ByteArray := prog_1_method_26_code
def yX4_isWithin : MethodName := ⟨RX4, "isWithin", "(III)Z"⟩
def RX5 : String := "UmbrellaLandModel$State"
def TX5 : u_T := fun k => match k with
  | 0 => ("UmbrellaLandModel$State", "hour", "I", false)
  | 1 => ("UmbrellaLandModel$State", "shelters", "I", false)
  | 2 => ("UmbrellaLandModel$State", "place", "[I", true)
  | 3 => ("UmbrellaLandModel$State", "demand", "[I", true)
  | 4 => ("UmbrellaLandModel$State", "told", "[I", true)
  | 5 => ("UmbrellaLandModel$State", "umbrellas", "I", false)
  | 6 => ("UmbrellaLandModel$State", "kind", "[I", true)
  | 7 => ("UmbrellaLandModel$State", "at", "[I", true)
  | 8 => ("UmbrellaLandModel$State", "wear", "[I", true)
  | 9 => ("UmbrellaLandModel$State", "waits", "[I", true)
  | 10 => ("UmbrellaLandModel$State", "taken", "[I", true)
  | 11 => ("UmbrellaLandModel$State", "from", "[I", true)
  | 12 => ("UmbrellaLandModel$State", "citizens", "I", false)
  | 13 => ("UmbrellaLandModel$State", "citizen", "[I", true)
  | 14 => ("UmbrellaLandModel$State", "is", "[I", true)
  | 15 => ("UmbrellaLandModel$State", "to", "[I", true)
  | 16 => ("UmbrellaLandModel$State", "left", "[I", true)
  | 17 => ("UmbrellaLandModel$State", "holds", "[I", true)
  | 18 => ("UmbrellaLandModel$State", "trust", "[I", true)
  | 19 => ("UmbrellaLandModel$State", "own", "[I", true)
  | 20 => ("UmbrellaLandModel$State", "carried", "I", false)
  | _ => ("UmbrellaLandModel$State", "this$0", "LUmbrellaLandModel;", true)
def tyX5 : Nat → FieldType := fun k => match k with
  | 0 => .int
  | 1 => .int
  | 2 => .array .int
  | 3 => .array .int
  | 4 => .array .int
  | 5 => .int
  | 6 => .array .int
  | 7 => .array .int
  | 8 => .array .int
  | 9 => .array .int
  | 10 => .array .int
  | 11 => .array .int
  | 12 => .int
  | 13 => .array .int
  | 14 => .array .int
  | 15 => .array .int
  | 16 => .array .int
  | 17 => .array .int
  | 18 => .array .int
  | 19 => .array .int
  | 20 => .int
  | _ => .object "UmbrellaLandModel"
abbrev wsX50 : List Cond := u_ws RX5 TX5 22
theorem nmX5 : ∀ a, a < 22 → ∀ b, b < 22 → a ≠ b → (TX5 a).2.1 ≠ (TX5 b).2.1 := by decide +kernel
theorem tyX5_ok : ∀ k, k < 22 → parseFieldDescriptor (TX5 k).2.2.1 = some (tyX5 k) := by decide +kernel
abbrev cX5_init : ByteArray := prog_8_method_1_code
def yX5_init : MethodName := ⟨RX5, "<init>", "(LUmbrellaLandModel;)V"⟩
abbrev cX5_copy : ByteArray := prog_8_method_2_code
def yX5_copy : MethodName := ⟨RX5, "copy", "([I[I)V"⟩
abbrev cX5_become : ByteArray := prog_8_method_3_code
def yX5_become : MethodName := ⟨RX5, "become", "(LUmbrellaLandModel$State;)V"⟩
abbrev cX5_bring : ByteArray := prog_8_method_4_code
def yX5_bring : MethodName := ⟨RX5, "bring", "(I)V"⟩
abbrev cX5_first : ByteArray := prog_8_method_5_code
def yX5_first : MethodName := ⟨RX5, "first", "(I)I"⟩
abbrev cX5_there : ByteArray := prog_8_method_6_code
def yX5_there : MethodName := ⟨RX5, "there", "(I)I"⟩
abbrev cX5_wouldGet : ByteArray := prog_8_method_7_code
def yX5_wouldGet : MethodName := ⟨RX5, "wouldGet", "(II)Z"⟩
abbrev cX5_pass : ByteArray := prog_8_method_8_code
def yX5_pass : MethodName := ⟨RX5, "pass", "()I"⟩
abbrev cX5_comeBack : ByteArray := prog_8_method_9_code
def yX5_comeBack : MethodName := ⟨RX5, "comeBack", "(I)V"⟩
abbrev cX5_leave : ByteArray := prog_8_method_10_code
def yX5_leave : MethodName := ⟨RX5, "leave", "(II)I"⟩
abbrev cX5_walk : ByteArray := prog_8_method_11_code
def yX5_walk : MethodName := ⟨RX5, "walk", "(II)V"⟩
abbrev cX5_lay : ByteArray := prog_8_method_12_code
def yX5_lay : MethodName := ⟨RX5, "lay", "(II)V"⟩
abbrev cX5_cart : ByteArray := prog_8_method_13_code
def yX5_cart : MethodName := ⟨RX5, "cart", "()V"⟩
abbrev cX5_decree : ByteArray := prog_8_method_14_code
def yX5_decree : MethodName := ⟨RX5, "decree", "()V"⟩
abbrev cX5_of : ByteArray := prog_8_method_15_code
def yX5_of : MethodName := ⟨RX5, "of", "(I)I"⟩
abbrev cX5_over : ByteArray := prog_8_method_16_code
def yX5_over : MethodName := ⟨RX5, "over", "(I)I"⟩
def RX6 : String := "UmbrellaLandModel"
def TX6 : u_T := fun k => match k with
  | 0 => ("UmbrellaLandModel", "thrown", "I", false)
  | 1 => ("UmbrellaLandModel", "rain", "[I", true)
  | 2 => ("UmbrellaLandModel", "s", "LUmbrellaLandModel$State;", true)
  | _ => ("UmbrellaLandModel", "ahead", "LUmbrellaLandModel$State;", true)
def tyX6 : Nat → FieldType := fun k => match k with
  | 0 => .int
  | 1 => .array .int
  | 2 => .object "UmbrellaLandModel$State"
  | _ => .object "UmbrellaLandModel$State"
abbrev wsX60 : List Cond := u_ws RX6 TX6 4
theorem nmX6 : ∀ a, a < 4 → ∀ b, b < 4 → a ≠ b → (TX6 a).2.1 ≠ (TX6 b).2.1 := by decide +kernel
theorem tyX6_ok : ∀ k, k < 4 → parseFieldDescriptor (TX6 k).2.2.1 = some (tyX6 k) := by decide +kernel
abbrev cX6_init : ByteArray := prog_7_method_1_code
def yX6_init : MethodName := ⟨RX6, "<init>", "()V"⟩
abbrev cX6_thrown : ByteArray := prog_7_method_2_code
def yX6_thrown : MethodName := ⟨RX6, "thrown", "()I"⟩
abbrev cX6_no : ByteArray := prog_7_method_3_code
def yX6_no : MethodName := ⟨RX6, "no", "(I)I"⟩
abbrev cX6_isIn : ByteArray := prog_7_method_4_code
def yX6_isIn : MethodName := ⟨RX6, "isIn", "(III)Z"⟩
abbrev cX6_isShelter : ByteArray := prog_7_method_5_code
def yX6_isShelter : MethodName := ⟨RX6, "isShelter", "(I)Z"⟩
abbrev cX6_isCitizen : ByteArray := prog_7_method_6_code
def yX6_isCitizen : MethodName := ⟨RX6, "isCitizen", "(I)Z"⟩
abbrev cX6_build : ByteArray := prog_7_method_7_code
def yX6_build : MethodName := ⟨RX6, "build", "(II)I"⟩
abbrev cX6_bring : ByteArray := prog_7_method_8_code
def yX6_bring : MethodName := ⟨RX6, "bring", "(II)I"⟩
abbrev cX6_addCitizen : ByteArray := prog_7_method_9_code
def yX6_addCitizen : MethodName := ⟨RX6, "addCitizen", "(IIIII)I"⟩
abbrev cX6_setRain : ByteArray := prog_7_method_10_code
def yX6_setRain : MethodName := ⟨RX6, "setRain", "(II)I"⟩
abbrev cX6_setDemand : ByteArray := prog_7_method_11_code
def yX6_setDemand : MethodName := ⟨RX6, "setDemand", "(II)I"⟩
abbrev cX6_shelterTold : ByteArray := prog_7_method_12_code
def yX6_shelterTold : MethodName := ⟨RX6, "shelterTold", "(II)I"⟩
abbrev cX6_shelter : ByteArray := prog_7_method_13_code
def yX6_shelter : MethodName := ⟨RX6, "shelter", "(II)I"⟩
abbrev cX6_umbrellaTold : ByteArray := prog_7_method_14_code
def yX6_umbrellaTold : MethodName := ⟨RX6, "umbrellaTold", "(II)I"⟩
abbrev cX6_umbrella : ByteArray := prog_7_method_15_code
def yX6_umbrella : MethodName := ⟨RX6, "umbrella", "(II)I"⟩
abbrev cX6_citizenTold : ByteArray := prog_7_method_16_code
def yX6_citizenTold : MethodName := ⟨RX6, "citizenTold", "(II)I"⟩
abbrev cX6_citizen : ByteArray := prog_7_method_17_code
def yX6_citizen : MethodName := ⟨RX6, "citizen", "(II)I"⟩
abbrev cX6_counted : ByteArray := prog_7_method_18_code
def yX6_counted : MethodName := ⟨RX6, "counted", "(I)I"⟩
abbrev cX6_count : ByteArray := prog_7_method_19_code
def yX6_count : MethodName := ⟨RX6, "count", "(I)I"⟩
abbrev cX6_pass : ByteArray := prog_7_method_20_code
def yX6_pass : MethodName := ⟨RX6, "pass", "(LUmbrellaLandModel$State;I)I"⟩
abbrev cX6_pass_ : ByteArray := prog_7_method_21_code
def yX6_pass_ : MethodName := ⟨RX6, "pass", "(I)I"⟩
abbrev cX6_foresee : ByteArray := prog_7_method_22_code
def yX6_foresee : MethodName := ⟨RX6, "foresee", "(II)I"⟩
abbrev cX6_advise : ByteArray := prog_7_method_23_code
def yX6_advise : MethodName := ⟨RX6, "advise", "(I)I"⟩
abbrev cX6_wouldGet : ByteArray := prog_7_method_24_code
def yX6_wouldGet : MethodName := ⟨RX6, "wouldGet", "(II)Z"⟩
abbrev cX6_lasts : ByteArray := prog_7_method_25_code
def yX6_lasts : MethodName := ⟨RX6, "lasts", "(II)I"⟩
abbrev cX6_trust : ByteArray := prog_7_method_26_code
def yX6_trust : MethodName := ⟨RX6, "trust", "()D"⟩
abbrev cX6_digest : ByteArray := prog_7_method_27_code
def yX6_digest : MethodName := ⟨RX6, "digest", "()J"⟩
def RJ9 : String := "java/lang/Math"
def TJ9 : u_T := fun k => match k with
  | _ => ("", "", "", false)
def tyJ9 : Nat → FieldType := fun k => match k with
  | _ => .int
abbrev wsJ90 : List Cond := u_ws RJ9 TJ9 0
theorem nmJ9 : ∀ a, a < 0 → ∀ b, b < 0 → a ≠ b → (TJ9 a).2.1 ≠ (TJ9 b).2.1 := by decide +kernel
theorem tyJ9_ok : ∀ k, k < 0 → parseFieldDescriptor (TJ9 k).2.2.1 = some (tyJ9 k) := by decide +kernel
abbrev cJ9_floorMod_7cf53 : ByteArray := prog_13_method_50_code
def yJ9_floorMod_7cf53 : MethodName := ⟨RJ9, "floorMod", "(II)I"⟩
abbrev cJ9_abs_0f7a4 : ByteArray := prog_13_method_59_code
def yJ9_abs_0f7a4 : MethodName := ⟨RJ9, "abs", "(I)I"⟩
abbrev cJ9_max_7cf53 : ByteArray := prog_13_method_65_code
def yJ9_max_7cf53 : MethodName := ⟨RJ9, "max", "(II)I"⟩
abbrev cJ9_min_7cf53 : ByteArray := prog_13_method_69_code
def yJ9_min_7cf53 : MethodName := ⟨RJ9, "min", "(II)I"⟩
def RJ0 : String := "java/lang/String"
def TJ0 : u_T := fun k => match k with
  | _ => ("", "", "", false)
def tyJ0 : Nat → FieldType := fun k => match k with
  | _ => .int
abbrev wsJ00 : List Cond := u_ws RJ0 TJ0 0
theorem nmJ0 : ∀ a, a < 0 → ∀ b, b < 0 → a ≠ b → (TJ0 a).2.1 ≠ (TJ0 b).2.1 := by decide +kernel
theorem tyJ0_ok : ∀ k, k < 0 → parseFieldDescriptor (TJ0 k).2.2.1 = some (tyJ0 k) := by decide +kernel
def RJ10 : String := "java/lang/System"
def TJ10 : u_T := fun k => match k with
  | _ => ("", "", "", false)
def tyJ10 : Nat → FieldType := fun k => match k with
  | _ => .int
abbrev wsJ100 : List Cond := u_ws RJ10 TJ10 0
theorem nmJ10 : ∀ a, a < 0 → ∀ b, b < 0 → a ≠ b → (TJ10 a).2.1 ≠ (TJ10 b).2.1 := by decide +kernel
theorem tyJ10_ok : ∀ k, k < 0 → parseFieldDescriptor (TJ10 k).2.2.1 = some (tyJ10 k) := by decide +kernel
def RL : String := "UmbrellaLandLaw"
abbrev cL_build : ByteArray := method_3_code
def yL_build : MethodName := ⟨RL, "build", "(LUmbrellaLand;II[J)I"⟩
abbrev cL_bring : ByteArray := method_4_code
def yL_bring : MethodName := ⟨RL, "bring", "(LUmbrellaLand;II[J)I"⟩
abbrev cL_addCitizen : ByteArray := method_5_code
def yL_addCitizen : MethodName := ⟨RL, "addCitizen", "(LUmbrellaLand;IIIII[J)I"⟩
abbrev cL_setRain : ByteArray := method_6_code
def yL_setRain : MethodName := ⟨RL, "setRain", "(LUmbrellaLand;II[J)I"⟩
abbrev cL_setDemand : ByteArray := method_7_code
def yL_setDemand : MethodName := ⟨RL, "setDemand", "(LUmbrellaLand;II[J)I"⟩
abbrev cL_shelter : ByteArray := method_8_code
def yL_shelter : MethodName := ⟨RL, "shelter", "(LUmbrellaLand;II[J)I"⟩
abbrev cL_umbrella : ByteArray := method_9_code
def yL_umbrella : MethodName := ⟨RL, "umbrella", "(LUmbrellaLand;II[J)I"⟩
abbrev cL_citizen : ByteArray := method_10_code
def yL_citizen : MethodName := ⟨RL, "citizen", "(LUmbrellaLand;II[J)I"⟩
abbrev cL_count : ByteArray := method_11_code
def yL_count : MethodName := ⟨RL, "count", "(LUmbrellaLand;I[J)I"⟩
abbrev cL_pass : ByteArray := method_12_code
def yL_pass : MethodName := ⟨RL, "pass", "(LUmbrellaLand;I[J)I"⟩
abbrev cL_foresee : ByteArray := method_13_code
def yL_foresee : MethodName := ⟨RL, "foresee", "(LUmbrellaLand;II[J)I"⟩
abbrev cL_advise : ByteArray := method_14_code
def yL_advise : MethodName := ⟨RL, "advise", "(LUmbrellaLand;I[J)I"⟩
abbrev cL_wouldGet : ByteArray := method_15_code
def yL_wouldGet : MethodName := ⟨RL, "wouldGet", "(LUmbrellaLand;II[J)I"⟩
abbrev cL_lasts : ByteArray := method_16_code
def yL_lasts : MethodName := ⟨RL, "lasts", "(LUmbrellaLand;II[J)I"⟩
abbrev cL_law : ByteArray := code
def yL_law : MethodName := ⟨RL, "law", "([I)Z"⟩
def wsX0_init : List Cond := .code yX0_init cX0_init 1 none :: ([.methodLink RX0 3 objectInit, .instanceMethod objectInit, .code objectInit ⟨#[0xb1]⟩ 1 none])
def wsX0_settle : List Cond := .code yX0_settle cX0_settle 4 none :: ([.fieldLink RX0 9 "UmbrellaLand$Citizen" "home" "I", .fieldLink RX0 15 "UmbrellaLand$Citizen" "work" "I", .fieldLink RX0 18 "UmbrellaLand$Citizen" "hoursOfWalk" "I", .fieldLink RX0 21 "UmbrellaLand$Citizen" "stays" "I", .fieldLink RX0 24 "UmbrellaLand$Citizen" "goal" "I", .fieldLink RX0 27 "UmbrellaLand$Citizen" "inHand" "I", .fieldLink RX0 30 "UmbrellaLand$Citizen" "trust" "I"] ++ wsX00)
def wsX0_becomeLike : List Cond := .code yX0_becomeLike cX0_becomeLike 2 none :: ([.fieldLink RX0 9 "UmbrellaLand$Citizen" "home" "I", .fieldLink RX0 15 "UmbrellaLand$Citizen" "work" "I", .fieldLink RX0 33 "UmbrellaLand$Citizen" "leaves" "I", .fieldLink RX0 36 "UmbrellaLand$Citizen" "returns" "I", .fieldLink RX0 39 "UmbrellaLand$Citizen" "forgets" "I", .fieldLink RX0 18 "UmbrellaLand$Citizen" "hoursOfWalk" "I", .fieldLink RX0 21 "UmbrellaLand$Citizen" "stays" "I", .fieldLink RX0 24 "UmbrellaLand$Citizen" "goal" "I", .fieldLink RX0 42 "UmbrellaLand$Citizen" "hoursToWalk" "I", .fieldLink RX0 27 "UmbrellaLand$Citizen" "inHand" "I", .fieldLink RX0 30 "UmbrellaLand$Citizen" "trust" "I", .fieldLink RX0 45 "UmbrellaLand$Citizen" "wet" "I", .fieldLink RX0 48 "UmbrellaLand$Citizen" "taken" "I", .fieldLink RX0 51 "UmbrellaLand$Citizen" "forgotten" "I", .fieldLink RX0 54 "UmbrellaLand$Citizen" "refused" "I"] ++ wsX00)
def wsX0_leavesAt : List Cond := .code yX0_leavesAt cX0_leavesAt 2 (some .boolean) :: ([.fieldLink RX0 21 "UmbrellaLand$Citizen" "stays" "I", .fieldLink RX0 9 "UmbrellaLand$Citizen" "home" "I", .fieldLink RX0 33 "UmbrellaLand$Citizen" "leaves" "I", .fieldLink RX0 15 "UmbrellaLand$Citizen" "work" "I", .fieldLink RX0 36 "UmbrellaLand$Citizen" "returns" "I"] ++ wsX00)
def wsX0_setOut : List Cond := .code yX0_setOut cX0_setOut 1 none :: ([.fieldLink RX0 21 "UmbrellaLand$Citizen" "stays" "I", .fieldLink RX0 9 "UmbrellaLand$Citizen" "home" "I", .fieldLink RX0 15 "UmbrellaLand$Citizen" "work" "I", .fieldLink RX0 24 "UmbrellaLand$Citizen" "goal" "I", .fieldLink RX0 18 "UmbrellaLand$Citizen" "hoursOfWalk" "I", .fieldLink RX0 42 "UmbrellaLand$Citizen" "hoursToWalk" "I"] ++ wsX00)
def wsX0_forgetsThisOne : List Cond := .code yX0_forgetsThisOne cX0_forgetsThisOne 1 (some .boolean) :: ([.fieldLink RX0 39 "UmbrellaLand$Citizen" "forgets" "I", .fieldLink RX0 48 "UmbrellaLand$Citizen" "taken" "I"] ++ wsX00)
def wsX0_noteForgotten : List Cond := .code yX0_noteForgotten cX0_noteForgotten 1 none :: ([.fieldLink RX0 51 "UmbrellaLand$Citizen" "forgotten" "I", .fieldLink RX0 30 "UmbrellaLand$Citizen" "trust" "I", .methodLink RX0 57 Lib.Math.max.name, .static Lib.Math.max.name, .initialized "java/lang/Math", .code Lib.Math.max.name Lib.Math.max.code 2 (some .int)] ++ wsX00)
def wsX0_noteBroughtBack : List Cond := .code yX0_noteBroughtBack cX0_noteBroughtBack 1 none :: ([.fieldLink RX0 30 "UmbrellaLand$Citizen" "trust" "I", .methodLink RX0 63 Lib.Math.min.name, .static Lib.Math.min.name, .initialized "java/lang/Math", .code Lib.Math.min.name Lib.Math.min.code 2 (some .int)] ++ wsX00)
def wsX0_tell : List Cond := .code yX0_tell cX0_tell 2 (some .int) :: ([.fieldLink RX0 9 "UmbrellaLand$Citizen" "home" "I", .fieldLink RX0 15 "UmbrellaLand$Citizen" "work" "I", .fieldLink RX0 21 "UmbrellaLand$Citizen" "stays" "I", .fieldLink RX0 42 "UmbrellaLand$Citizen" "hoursToWalk" "I", .fieldLink RX0 27 "UmbrellaLand$Citizen" "inHand" "I", .fieldLink RX0 30 "UmbrellaLand$Citizen" "trust" "I", .fieldLink RX0 45 "UmbrellaLand$Citizen" "wet" "I", .fieldLink RX0 48 "UmbrellaLand$Citizen" "taken" "I", .fieldLink RX0 51 "UmbrellaLand$Citizen" "forgotten" "I", .fieldLink RX0 54 "UmbrellaLand$Citizen" "refused" "I"] ++ wsX00)
def wsX2_init : List Cond := .code yX2_init cX2_init 1 none :: ([.methodLink RX2 3 objectInit, .instanceMethod objectInit, .code objectInit ⟨#[0xb1]⟩ 1 none])
def wsX3_init : List Cond := .code yX3_init cX3_init 1 none :: ([.methodLink RX3 3 objectInit, .instanceMethod objectInit, .code objectInit ⟨#[0xb1]⟩ 1 none])
def wsX1_init_r1 : List Cond := [Cond.methodLink RX1 3 objectInit, Cond.instanceMethod objectInit, Cond.code objectInit ⟨#[0xb1]⟩ 1 none, Cond.arrayClass .int, Cond.fieldLink RX1 9 "UmbrellaLand$Republic" "rain" "[I", Cond.classLink RX1 15 RX2, Cond.fieldLink RX1 17 "UmbrellaLand$Republic" "shelters" "[LUmbrellaLand$Shelter;", Cond.classLink RX1 21 RX3, Cond.fieldLink RX1 23 "UmbrellaLand$Republic" "umbrellas" "[LUmbrellaLand$Umbrella;", Cond.classLink RX1 27 RX0, Cond.fieldLink RX1 29 "UmbrellaLand$Republic" "citizens" "[LUmbrellaLand$Citizen;", Cond.instantiable RX2 7, Cond.initialized RX2, Cond.instantiable RX3 6, Cond.initialized RX3, Cond.instantiable RX0 15, Cond.initialized RX0, Cond.instanceMethod yX2_init, Cond.code yX2_init cX2_init 1 none, Cond.methodLink RX2 3 objectInit, Cond.instanceMethod yX3_init, Cond.code yX3_init cX3_init 1 none, Cond.methodLink RX3 3 objectInit, Cond.instanceMethod yX0_init]
def wsX1_init_r2 : List Cond := [Cond.code yX0_init cX0_init 1 none, Cond.methodLink RX0 3 objectInit]
def wsX1_init : List Cond := .code yX1_init cX1_init 2 none :: ((wsX1_init_r1 ++ wsX1_init_r2) ++ wsX10 ++ wsX20 ++ wsX30 ++ wsX00)
def wsX2_becomeLike : List Cond := .code yX2_becomeLike cX2_becomeLike 2 none :: ([.fieldLink RX2 9 "UmbrellaLand$Shelter" "place" "I", .fieldLink RX2 15 "UmbrellaLand$Shelter" "demand" "I", .fieldLink RX2 18 "UmbrellaLand$Shelter" "taken" "I", .fieldLink RX2 21 "UmbrellaLand$Shelter" "forgotten" "I", .fieldLink RX2 24 "UmbrellaLand$Shelter" "refused" "I", .fieldLink RX2 27 "UmbrellaLand$Shelter" "forgottenToday" "I", .fieldLink RX2 30 "UmbrellaLand$Shelter" "refusedToday" "I"] ++ wsX20)
def wsX3_becomeLike : List Cond := .code yX3_becomeLike cX3_becomeLike 2 none :: ([.fieldLink RX3 25 "UmbrellaLand$Umbrella" "state" "I", .fieldLink RX3 28 "UmbrellaLand$Umbrella" "holder" "I", .fieldLink RX3 9 "UmbrellaLand$Umbrella" "wear" "I", .fieldLink RX3 31 "UmbrellaLand$Umbrella" "waits" "I", .fieldLink RX3 15 "UmbrellaLand$Umbrella" "taken" "I", .fieldLink RX3 18 "UmbrellaLand$Umbrella" "takenFrom" "I"] ++ wsX30)
def wsX1_becomeLike_r1 : List Cond := [Cond.fieldLink RX1 9 "UmbrellaLand$Republic" "rain" "[I", Cond.methodLink RX1 36 arraycopyName, Cond.native arraycopyName, Cond.static arraycopyName, Cond.initialized "java/lang/System", Cond.fieldLink RX1 42 "UmbrellaLand$Republic" "hour" "I", Cond.fieldLink RX1 46 "UmbrellaLand$Republic" "shelterCount" "I", Cond.fieldLink RX1 49 "UmbrellaLand$Republic" "umbrellaCount" "I", Cond.fieldLink RX1 52 "UmbrellaLand$Republic" "citizenCount" "I", Cond.fieldLink RX1 55 "UmbrellaLand$Republic" "carried" "I", Cond.fieldLink RX1 17 "UmbrellaLand$Republic" "shelters" "[LUmbrellaLand$Shelter;", Cond.fieldLink RX1 23 "UmbrellaLand$Republic" "umbrellas" "[LUmbrellaLand$Umbrella;", Cond.fieldLink RX1 29 "UmbrellaLand$Republic" "citizens" "[LUmbrellaLand$Citizen;", Cond.methodLink RX1 58 yX2_becomeLike, Cond.instanceMethod yX2_becomeLike, Cond.selects RX2 yX2_becomeLike yX2_becomeLike, Cond.initialized RX2, Cond.code yX2_becomeLike cX2_becomeLike 2 none, Cond.fieldLink RX2 9 "UmbrellaLand$Shelter" "place" "I", Cond.fieldLink RX2 15 "UmbrellaLand$Shelter" "demand" "I", Cond.fieldLink RX2 18 "UmbrellaLand$Shelter" "taken" "I", Cond.fieldLink RX2 21 "UmbrellaLand$Shelter" "forgotten" "I", Cond.fieldLink RX2 24 "UmbrellaLand$Shelter" "refused" "I", Cond.fieldLink RX2 27 "UmbrellaLand$Shelter" "forgottenToday" "I"]
def wsX1_becomeLike_r2 : List Cond := [Cond.fieldLink RX2 30 "UmbrellaLand$Shelter" "refusedToday" "I", Cond.methodLink RX1 62 yX3_becomeLike, Cond.instanceMethod yX3_becomeLike, Cond.selects RX3 yX3_becomeLike yX3_becomeLike, Cond.initialized RX3, Cond.code yX3_becomeLike cX3_becomeLike 2 none, Cond.fieldLink RX3 25 "UmbrellaLand$Umbrella" "state" "I", Cond.fieldLink RX3 28 "UmbrellaLand$Umbrella" "holder" "I", Cond.fieldLink RX3 9 "UmbrellaLand$Umbrella" "wear" "I", Cond.fieldLink RX3 31 "UmbrellaLand$Umbrella" "waits" "I", Cond.fieldLink RX3 15 "UmbrellaLand$Umbrella" "taken" "I", Cond.fieldLink RX3 18 "UmbrellaLand$Umbrella" "takenFrom" "I", Cond.methodLink RX1 65 yX0_becomeLike, Cond.instanceMethod yX0_becomeLike, Cond.selects RX0 yX0_becomeLike yX0_becomeLike, Cond.initialized RX0, Cond.code yX0_becomeLike cX0_becomeLike 2 none, Cond.fieldLink RX0 9 "UmbrellaLand$Citizen" "home" "I", Cond.fieldLink RX0 15 "UmbrellaLand$Citizen" "work" "I", Cond.fieldLink RX0 33 "UmbrellaLand$Citizen" "leaves" "I", Cond.fieldLink RX0 36 "UmbrellaLand$Citizen" "returns" "I", Cond.fieldLink RX0 39 "UmbrellaLand$Citizen" "forgets" "I", Cond.fieldLink RX0 18 "UmbrellaLand$Citizen" "hoursOfWalk" "I", Cond.fieldLink RX0 21 "UmbrellaLand$Citizen" "stays" "I"]
def wsX1_becomeLike_r3 : List Cond := [Cond.fieldLink RX0 24 "UmbrellaLand$Citizen" "goal" "I", Cond.fieldLink RX0 42 "UmbrellaLand$Citizen" "hoursToWalk" "I", Cond.fieldLink RX0 27 "UmbrellaLand$Citizen" "inHand" "I", Cond.fieldLink RX0 30 "UmbrellaLand$Citizen" "trust" "I", Cond.fieldLink RX0 45 "UmbrellaLand$Citizen" "wet" "I", Cond.fieldLink RX0 48 "UmbrellaLand$Citizen" "taken" "I", Cond.fieldLink RX0 51 "UmbrellaLand$Citizen" "forgotten" "I", Cond.fieldLink RX0 54 "UmbrellaLand$Citizen" "refused" "I"]
def wsX1_becomeLike : List Cond := .code yX1_becomeLike cX1_becomeLike 3 none :: ((wsX1_becomeLike_r1 ++ (wsX1_becomeLike_r2 ++ wsX1_becomeLike_r3)) ++ wsX10 ++ wsX20 ++ wsX30 ++ wsX00)
def wsX1_isShelter : List Cond := .code yX1_isShelter cX1_isShelter 2 (some .boolean) :: ([.fieldLink RX1 46 "UmbrellaLand$Republic" "shelterCount" "I"] ++ wsX10)
def wsX1_isUmbrella : List Cond := .code yX1_isUmbrella cX1_isUmbrella 2 (some .boolean) :: ([.fieldLink RX1 49 "UmbrellaLand$Republic" "umbrellaCount" "I"] ++ wsX10)
def wsX1_isCitizen : List Cond := .code yX1_isCitizen cX1_isCitizen 2 (some .boolean) :: ([.fieldLink RX1 52 "UmbrellaLand$Republic" "citizenCount" "I"] ++ wsX10)
def wsX1_isBuiltOn : List Cond := .code yX1_isBuiltOn cX1_isBuiltOn 3 (some .boolean) :: ([.fieldLink RX1 46 "UmbrellaLand$Republic" "shelterCount" "I", .fieldLink RX1 17 "UmbrellaLand$Republic" "shelters" "[LUmbrellaLand$Shelter;", .fieldLink RX1 68 "UmbrellaLand$Shelter" "place" "I"] ++ wsX10 ++ wsX20)
def wsX2_open : List Cond := .code yX2_open cX2_open 3 none :: ([.fieldLink RX2 9 "UmbrellaLand$Shelter" "place" "I", .fieldLink RX2 15 "UmbrellaLand$Shelter" "demand" "I"] ++ wsX20)
def wsX1_addShelter : List Cond := .code yX1_addShelter cX1_addShelter 3 (some .int) :: ([.fieldLink RX1 46 "UmbrellaLand$Republic" "shelterCount" "I", .fieldLink RX1 17 "UmbrellaLand$Republic" "shelters" "[LUmbrellaLand$Shelter;", .methodLink RX1 71 yX2_open, .instanceMethod yX2_open, .selects RX2 yX2_open yX2_open, .initialized RX2, .code yX2_open cX2_open 3 none, .fieldLink RX2 9 "UmbrellaLand$Shelter" "place" "I", .fieldLink RX2 15 "UmbrellaLand$Shelter" "demand" "I"] ++ wsX10 ++ wsX20)
def wsX3_standIn : List Cond := .code yX3_standIn cX3_standIn 2 none :: ([.fieldLink RX3 25 "UmbrellaLand$Umbrella" "state" "I", .fieldLink RX3 28 "UmbrellaLand$Umbrella" "holder" "I", .fieldLink RX3 31 "UmbrellaLand$Umbrella" "waits" "I"] ++ wsX30)
def wsX3_beNewIn : List Cond := .code yX3_beNewIn cX3_beNewIn 2 none :: ([.fieldLink RX3 9 "UmbrellaLand$Umbrella" "wear" "I", .fieldLink RX3 15 "UmbrellaLand$Umbrella" "taken" "I", .fieldLink RX3 18 "UmbrellaLand$Umbrella" "takenFrom" "I", .methodLink RX3 21 yX3_standIn, .instanceMethod yX3_standIn, .selects RX3 yX3_standIn yX3_standIn, .initialized RX3, .code yX3_standIn cX3_standIn 2 none, .fieldLink RX3 25 "UmbrellaLand$Umbrella" "state" "I", .fieldLink RX3 28 "UmbrellaLand$Umbrella" "holder" "I", .fieldLink RX3 31 "UmbrellaLand$Umbrella" "waits" "I"] ++ wsX30)
def wsX1_addUmbrella : List Cond := .code yX1_addUmbrella cX1_addUmbrella 2 none :: ([.fieldLink RX1 49 "UmbrellaLand$Republic" "umbrellaCount" "I", .fieldLink RX1 23 "UmbrellaLand$Republic" "umbrellas" "[LUmbrellaLand$Umbrella;", .methodLink RX1 75 yX3_beNewIn, .instanceMethod yX3_beNewIn, .selects RX3 yX3_beNewIn yX3_beNewIn, .initialized RX3, .code yX3_beNewIn cX3_beNewIn 2 none, .fieldLink RX3 9 "UmbrellaLand$Umbrella" "wear" "I", .fieldLink RX3 15 "UmbrellaLand$Umbrella" "taken" "I", .fieldLink RX3 18 "UmbrellaLand$Umbrella" "takenFrom" "I", .methodLink RX3 21 yX3_standIn, .instanceMethod yX3_standIn, .selects RX3 yX3_standIn yX3_standIn, .code yX3_standIn cX3_standIn 2 none, .fieldLink RX3 25 "UmbrellaLand$Umbrella" "state" "I", .fieldLink RX3 28 "UmbrellaLand$Umbrella" "holder" "I", .fieldLink RX3 31 "UmbrellaLand$Umbrella" "waits" "I"] ++ wsX10 ++ wsX30)
def wsX1_hoursBetween : List Cond := .code yX1_hoursBetween cX1_hoursBetween 3 (some .int) :: ([.fieldLink RX1 17 "UmbrellaLand$Republic" "shelters" "[LUmbrellaLand$Shelter;", .fieldLink RX1 68 "UmbrellaLand$Shelter" "place" "I", .methodLink RX1 100 Lib.Math.abs.name, .static Lib.Math.abs.name, .initialized "java/lang/Math", .code Lib.Math.abs.name Lib.Math.abs.code 1 (some .int), .methodLink RX1 106 Lib.Math.max.name, .static Lib.Math.max.name, .code Lib.Math.max.name Lib.Math.max.code 2 (some .int), .methodLink RX1 96 yX1_isShelter, .instanceMethod yX1_isShelter, .selects RX1 yX1_isShelter yX1_isShelter, .initialized RX1, .code yX1_isShelter cX1_isShelter 2 (some .boolean), .fieldLink RX1 46 "UmbrellaLand$Republic" "shelterCount" "I"] ++ wsX10 ++ wsX20)
def wsX1_addPerson_r1 : List Cond := [Cond.fieldLink RX1 52 "UmbrellaLand$Republic" "citizenCount" "I", Cond.fieldLink RX1 29 "UmbrellaLand$Republic" "citizens" "[LUmbrellaLand$Citizen;", Cond.fieldLink RX1 87 "UmbrellaLand$Citizen" "leaves" "I", Cond.fieldLink RX1 90 "UmbrellaLand$Citizen" "returns" "I", Cond.fieldLink RX1 93 "UmbrellaLand$Citizen" "forgets" "I", Cond.methodLink RX1 79 yX1_hoursBetween, Cond.instanceMethod yX1_hoursBetween, Cond.selects RX1 yX1_hoursBetween yX1_hoursBetween, Cond.initialized RX1, Cond.code yX1_hoursBetween cX1_hoursBetween 3 (some .int), Cond.fieldLink RX1 17 "UmbrellaLand$Republic" "shelters" "[LUmbrellaLand$Shelter;", Cond.fieldLink RX1 68 "UmbrellaLand$Shelter" "place" "I", Cond.methodLink RX1 100 Lib.Math.abs.name, Cond.static Lib.Math.abs.name, Cond.initialized "java/lang/Math", Cond.code Lib.Math.abs.name Lib.Math.abs.code 1 (some .int), Cond.methodLink RX1 106 Lib.Math.max.name, Cond.static Lib.Math.max.name, Cond.code Lib.Math.max.name Lib.Math.max.code 2 (some .int), Cond.methodLink RX1 96 yX1_isShelter, Cond.instanceMethod yX1_isShelter, Cond.selects RX1 yX1_isShelter yX1_isShelter, Cond.code yX1_isShelter cX1_isShelter 2 (some .boolean), Cond.fieldLink RX1 46 "UmbrellaLand$Republic" "shelterCount" "I"]
def wsX1_addPerson_r2 : List Cond := [Cond.methodLink RX1 83 yX0_settle, Cond.instanceMethod yX0_settle, Cond.selects RX0 yX0_settle yX0_settle, Cond.initialized RX0, Cond.code yX0_settle cX0_settle 4 none, Cond.fieldLink RX0 9 "UmbrellaLand$Citizen" "home" "I", Cond.fieldLink RX0 15 "UmbrellaLand$Citizen" "work" "I", Cond.fieldLink RX0 18 "UmbrellaLand$Citizen" "hoursOfWalk" "I", Cond.fieldLink RX0 21 "UmbrellaLand$Citizen" "stays" "I", Cond.fieldLink RX0 24 "UmbrellaLand$Citizen" "goal" "I", Cond.fieldLink RX0 27 "UmbrellaLand$Citizen" "inHand" "I", Cond.fieldLink RX0 30 "UmbrellaLand$Citizen" "trust" "I"]
def wsX1_addPerson : List Cond := .code yX1_addPerson cX1_addPerson 7 (some .int) :: ((wsX1_addPerson_r1 ++ wsX1_addPerson_r2) ++ wsX10 ++ wsX00 ++ wsX20)
def wsJ9_floorMod_7cf53 : List Cond := .code yJ9_floorMod_7cf53 cJ9_floorMod_7cf53 3 (some .int) :: ([])
def wsX3_waitAnHour : List Cond := .code yX3_waitAnHour cX3_waitAnHour 1 none :: ([.fieldLink RX3 31 "UmbrellaLand$Umbrella" "waits" "I", .fieldLink RX3 25 "UmbrellaLand$Umbrella" "state" "I", .fieldLink RX3 9 "UmbrellaLand$Umbrella" "wear" "I", .fieldLink RX3 18 "UmbrellaLand$Umbrella" "takenFrom" "I", .methodLink RX3 21 yX3_standIn, .instanceMethod yX3_standIn, .selects RX3 yX3_standIn yX3_standIn, .initialized RX3, .code yX3_standIn cX3_standIn 2 none, .fieldLink RX3 28 "UmbrellaLand$Umbrella" "holder" "I"] ++ wsX30)
def wsX1_letUmbrellasWait : List Cond := .code yX1_letUmbrellasWait cX1_letUmbrellasWait 2 none :: ([.fieldLink RX1 49 "UmbrellaLand$Republic" "umbrellaCount" "I", .fieldLink RX1 23 "UmbrellaLand$Republic" "umbrellas" "[LUmbrellaLand$Umbrella;", .methodLink RX1 127 yX3_waitAnHour, .instanceMethod yX3_waitAnHour, .selects RX3 yX3_waitAnHour yX3_waitAnHour, .initialized RX3, .code yX3_waitAnHour cX3_waitAnHour 1 none, .fieldLink RX3 31 "UmbrellaLand$Umbrella" "waits" "I", .fieldLink RX3 25 "UmbrellaLand$Umbrella" "state" "I", .fieldLink RX3 9 "UmbrellaLand$Umbrella" "wear" "I", .fieldLink RX3 18 "UmbrellaLand$Umbrella" "takenFrom" "I", .methodLink RX3 21 yX3_standIn, .instanceMethod yX3_standIn, .selects RX3 yX3_standIn yX3_standIn, .code yX3_standIn cX3_standIn 2 none, .fieldLink RX3 28 "UmbrellaLand$Umbrella" "holder" "I"] ++ wsX10 ++ wsX30)
def wsX3_standsIn : List Cond := .code yX3_standsIn cX3_standsIn 2 (some .boolean) :: ([.fieldLink RX3 25 "UmbrellaLand$Umbrella" "state" "I", .fieldLink RX3 28 "UmbrellaLand$Umbrella" "holder" "I"] ++ wsX30)
def wsX1_firstUmbrellaIn : List Cond := .code yX1_firstUmbrellaIn cX1_firstUmbrellaIn 5 (some .int) :: ([.fieldLink RX1 49 "UmbrellaLand$Republic" "umbrellaCount" "I", .fieldLink RX1 23 "UmbrellaLand$Republic" "umbrellas" "[LUmbrellaLand$Umbrella;", .fieldLink RX1 183 "UmbrellaLand$Umbrella" "wear" "I", .methodLink RX1 213 yX3_standsIn, .instanceMethod yX3_standsIn, .selects RX3 yX3_standsIn yX3_standsIn, .initialized RX3, .code yX3_standsIn cX3_standsIn 2 (some .boolean), .fieldLink RX3 25 "UmbrellaLand$Umbrella" "state" "I", .fieldLink RX3 28 "UmbrellaLand$Umbrella" "holder" "I"] ++ wsX10 ++ wsX30)
def wsX2_noteRefusal : List Cond := .code yX2_noteRefusal cX2_noteRefusal 1 none :: ([.fieldLink RX2 24 "UmbrellaLand$Shelter" "refused" "I", .fieldLink RX2 30 "UmbrellaLand$Shelter" "refusedToday" "I"] ++ wsX20)
def wsX3_goWith : List Cond := .code yX3_goWith cX3_goWith 2 none :: ([.fieldLink RX3 28 "UmbrellaLand$Umbrella" "holder" "I", .fieldLink RX3 18 "UmbrellaLand$Umbrella" "takenFrom" "I", .fieldLink RX3 15 "UmbrellaLand$Umbrella" "taken" "I", .fieldLink RX3 25 "UmbrellaLand$Umbrella" "state" "I"] ++ wsX30)
def wsX1_takeUmbrella_r1 : List Cond := [Cond.fieldLink RX1 29 "UmbrellaLand$Republic" "citizens" "[LUmbrellaLand$Citizen;", Cond.fieldLink RX1 139 "UmbrellaLand$Citizen" "stays" "I", Cond.fieldLink RX1 17 "UmbrellaLand$Republic" "shelters" "[LUmbrellaLand$Shelter;", Cond.fieldLink RX1 145 "UmbrellaLand$Citizen" "trust" "I", Cond.fieldLink RX1 148 "UmbrellaLand$Shelter" "demand" "I", Cond.fieldLink RX1 154 "UmbrellaLand$Citizen" "refused" "I", Cond.fieldLink RX1 23 "UmbrellaLand$Republic" "umbrellas" "[LUmbrellaLand$Umbrella;", Cond.fieldLink RX1 163 "UmbrellaLand$Citizen" "inHand" "I", Cond.fieldLink RX1 166 "UmbrellaLand$Citizen" "taken" "I", Cond.fieldLink RX1 169 "UmbrellaLand$Shelter" "taken" "I", Cond.methodLink RX1 96 yX1_isShelter, Cond.instanceMethod yX1_isShelter, Cond.selects RX1 yX1_isShelter yX1_isShelter, Cond.initialized RX1, Cond.code yX1_isShelter cX1_isShelter 2 (some .boolean), Cond.fieldLink RX1 46 "UmbrellaLand$Republic" "shelterCount" "I", Cond.methodLink RX1 142 yX1_firstUmbrellaIn, Cond.instanceMethod yX1_firstUmbrellaIn, Cond.selects RX1 yX1_firstUmbrellaIn yX1_firstUmbrellaIn, Cond.code yX1_firstUmbrellaIn cX1_firstUmbrellaIn 5 (some .int), Cond.fieldLink RX1 49 "UmbrellaLand$Republic" "umbrellaCount" "I", Cond.fieldLink RX1 183 "UmbrellaLand$Umbrella" "wear" "I", Cond.methodLink RX1 213 yX3_standsIn, Cond.instanceMethod yX3_standsIn]
def wsX1_takeUmbrella_r2 : List Cond := [Cond.selects RX3 yX3_standsIn yX3_standsIn, Cond.initialized RX3, Cond.code yX3_standsIn cX3_standsIn 2 (some .boolean), Cond.fieldLink RX3 25 "UmbrellaLand$Umbrella" "state" "I", Cond.fieldLink RX3 28 "UmbrellaLand$Umbrella" "holder" "I", Cond.methodLink RX1 151 yX1_isUmbrella, Cond.instanceMethod yX1_isUmbrella, Cond.selects RX1 yX1_isUmbrella yX1_isUmbrella, Cond.code yX1_isUmbrella cX1_isUmbrella 2 (some .boolean), Cond.methodLink RX1 157 yX2_noteRefusal, Cond.instanceMethod yX2_noteRefusal, Cond.selects RX2 yX2_noteRefusal yX2_noteRefusal, Cond.initialized RX2, Cond.code yX2_noteRefusal cX2_noteRefusal 1 none, Cond.fieldLink RX2 24 "UmbrellaLand$Shelter" "refused" "I", Cond.fieldLink RX2 30 "UmbrellaLand$Shelter" "refusedToday" "I", Cond.methodLink RX1 160 yX3_goWith, Cond.instanceMethod yX3_goWith, Cond.selects RX3 yX3_goWith yX3_goWith, Cond.code yX3_goWith cX3_goWith 2 none, Cond.fieldLink RX3 18 "UmbrellaLand$Umbrella" "takenFrom" "I", Cond.fieldLink RX3 15 "UmbrellaLand$Umbrella" "taken" "I"]
def wsX1_takeUmbrella : List Cond := .code yX1_takeUmbrella cX1_takeUmbrella 5 (some .boolean) :: ((wsX1_takeUmbrella_r1 ++ wsX1_takeUmbrella_r2) ++ wsX10 ++ wsX00 ++ wsX20 ++ wsX30)
def wsX1_letCitizensLeave_r1 : List Cond := [Cond.fieldLink RX1 9 "UmbrellaLand$Republic" "rain" "[I", Cond.fieldLink RX1 52 "UmbrellaLand$Republic" "citizenCount" "I", Cond.fieldLink RX1 29 "UmbrellaLand$Republic" "citizens" "[LUmbrellaLand$Citizen;", Cond.methodLink RX1 109 yJ9_floorMod_7cf53, Cond.static yJ9_floorMod_7cf53, Cond.initialized RJ9, Cond.code yJ9_floorMod_7cf53 cJ9_floorMod_7cf53 3 (some .int), Cond.methodLink RX1 130 yX0_leavesAt, Cond.instanceMethod yX0_leavesAt, Cond.selects RX0 yX0_leavesAt yX0_leavesAt, Cond.initialized RX0, Cond.code yX0_leavesAt cX0_leavesAt 2 (some .boolean), Cond.fieldLink RX0 21 "UmbrellaLand$Citizen" "stays" "I", Cond.fieldLink RX0 9 "UmbrellaLand$Citizen" "home" "I", Cond.fieldLink RX0 33 "UmbrellaLand$Citizen" "leaves" "I", Cond.fieldLink RX0 15 "UmbrellaLand$Citizen" "work" "I", Cond.fieldLink RX0 36 "UmbrellaLand$Citizen" "returns" "I", Cond.methodLink RX1 133 yX1_takeUmbrella, Cond.instanceMethod yX1_takeUmbrella, Cond.selects RX1 yX1_takeUmbrella yX1_takeUmbrella, Cond.initialized RX1, Cond.code yX1_takeUmbrella cX1_takeUmbrella 5 (some .boolean), Cond.fieldLink RX1 139 "UmbrellaLand$Citizen" "stays" "I", Cond.fieldLink RX1 17 "UmbrellaLand$Republic" "shelters" "[LUmbrellaLand$Shelter;"]
def wsX1_letCitizensLeave_r2 : List Cond := [Cond.fieldLink RX1 145 "UmbrellaLand$Citizen" "trust" "I", Cond.fieldLink RX1 148 "UmbrellaLand$Shelter" "demand" "I", Cond.fieldLink RX1 154 "UmbrellaLand$Citizen" "refused" "I", Cond.fieldLink RX1 23 "UmbrellaLand$Republic" "umbrellas" "[LUmbrellaLand$Umbrella;", Cond.fieldLink RX1 163 "UmbrellaLand$Citizen" "inHand" "I", Cond.fieldLink RX1 166 "UmbrellaLand$Citizen" "taken" "I", Cond.fieldLink RX1 169 "UmbrellaLand$Shelter" "taken" "I", Cond.methodLink RX1 96 yX1_isShelter, Cond.instanceMethod yX1_isShelter, Cond.selects RX1 yX1_isShelter yX1_isShelter, Cond.code yX1_isShelter cX1_isShelter 2 (some .boolean), Cond.fieldLink RX1 46 "UmbrellaLand$Republic" "shelterCount" "I", Cond.methodLink RX1 142 yX1_firstUmbrellaIn, Cond.instanceMethod yX1_firstUmbrellaIn, Cond.selects RX1 yX1_firstUmbrellaIn yX1_firstUmbrellaIn, Cond.code yX1_firstUmbrellaIn cX1_firstUmbrellaIn 5 (some .int), Cond.fieldLink RX1 49 "UmbrellaLand$Republic" "umbrellaCount" "I", Cond.fieldLink RX1 183 "UmbrellaLand$Umbrella" "wear" "I", Cond.methodLink RX1 213 yX3_standsIn, Cond.instanceMethod yX3_standsIn, Cond.selects RX3 yX3_standsIn yX3_standsIn, Cond.initialized RX3, Cond.code yX3_standsIn cX3_standsIn 2 (some .boolean), Cond.fieldLink RX3 25 "UmbrellaLand$Umbrella" "state" "I"]
def wsX1_letCitizensLeave_r3 : List Cond := [Cond.fieldLink RX3 28 "UmbrellaLand$Umbrella" "holder" "I", Cond.methodLink RX1 151 yX1_isUmbrella, Cond.instanceMethod yX1_isUmbrella, Cond.selects RX1 yX1_isUmbrella yX1_isUmbrella, Cond.code yX1_isUmbrella cX1_isUmbrella 2 (some .boolean), Cond.methodLink RX1 157 yX2_noteRefusal, Cond.instanceMethod yX2_noteRefusal, Cond.selects RX2 yX2_noteRefusal yX2_noteRefusal, Cond.initialized RX2, Cond.code yX2_noteRefusal cX2_noteRefusal 1 none, Cond.fieldLink RX2 24 "UmbrellaLand$Shelter" "refused" "I", Cond.fieldLink RX2 30 "UmbrellaLand$Shelter" "refusedToday" "I", Cond.methodLink RX1 160 yX3_goWith, Cond.instanceMethod yX3_goWith, Cond.selects RX3 yX3_goWith yX3_goWith, Cond.code yX3_goWith cX3_goWith 2 none, Cond.fieldLink RX3 18 "UmbrellaLand$Umbrella" "takenFrom" "I", Cond.fieldLink RX3 15 "UmbrellaLand$Umbrella" "taken" "I", Cond.methodLink RX1 136 yX0_setOut, Cond.instanceMethod yX0_setOut, Cond.selects RX0 yX0_setOut yX0_setOut, Cond.code yX0_setOut cX0_setOut 1 none, Cond.fieldLink RX0 24 "UmbrellaLand$Citizen" "goal" "I", Cond.fieldLink RX0 18 "UmbrellaLand$Citizen" "hoursOfWalk" "I"]
def wsX1_letCitizensLeave_r4 : List Cond := [Cond.fieldLink RX0 42 "UmbrellaLand$Citizen" "hoursToWalk" "I"]
def wsX1_letCitizensLeave : List Cond := .code yX1_letCitizensLeave cX1_letCitizensLeave 5 (some .int) :: ((wsX1_letCitizensLeave_r1 ++ (wsX1_letCitizensLeave_r2 ++ (wsX1_letCitizensLeave_r3 ++ wsX1_letCitizensLeave_r4))) ++ wsX10 ++ wsX00 ++ wsX20 ++ wsX30)
def wsX3_stayAway : List Cond := .code yX3_stayAway cX3_stayAway 3 none :: ([.fieldLink RX3 25 "UmbrellaLand$Umbrella" "state" "I", .fieldLink RX3 28 "UmbrellaLand$Umbrella" "holder" "I", .fieldLink RX3 31 "UmbrellaLand$Umbrella" "waits" "I"] ++ wsX30)
def wsX1_meetRain : List Cond := .code yX1_meetRain cX1_meetRain 4 none :: ([.fieldLink RX1 163 "UmbrellaLand$Citizen" "inHand" "I", .fieldLink RX1 180 "UmbrellaLand$Citizen" "wet" "I", .fieldLink RX1 23 "UmbrellaLand$Republic" "umbrellas" "[LUmbrellaLand$Umbrella;", .fieldLink RX1 183 "UmbrellaLand$Umbrella" "wear" "I", .methodLink RX1 151 yX1_isUmbrella, .instanceMethod yX1_isUmbrella, .selects RX1 yX1_isUmbrella yX1_isUmbrella, .initialized RX1, .code yX1_isUmbrella cX1_isUmbrella 2 (some .boolean), .fieldLink RX1 49 "UmbrellaLand$Republic" "umbrellaCount" "I", .methodLink RX1 186 yX3_stayAway, .instanceMethod yX3_stayAway, .selects RX3 yX3_stayAway yX3_stayAway, .initialized RX3, .code yX3_stayAway cX3_stayAway 3 none, .fieldLink RX3 25 "UmbrellaLand$Umbrella" "state" "I", .fieldLink RX3 28 "UmbrellaLand$Umbrella" "holder" "I", .fieldLink RX3 31 "UmbrellaLand$Umbrella" "waits" "I"] ++ wsX00 ++ wsX10 ++ wsX30)
def wsX2_noteForgotten : List Cond := .code yX2_noteForgotten cX2_noteForgotten 1 none :: ([.fieldLink RX2 21 "UmbrellaLand$Shelter" "forgotten" "I", .fieldLink RX2 27 "UmbrellaLand$Shelter" "forgottenToday" "I"] ++ wsX20)
def wsX1_arrive_r1 : List Cond := [Cond.fieldLink RX1 189 "UmbrellaLand$Citizen" "goal" "I", Cond.fieldLink RX1 139 "UmbrellaLand$Citizen" "stays" "I", Cond.fieldLink RX1 163 "UmbrellaLand$Citizen" "inHand" "I", Cond.fieldLink RX1 23 "UmbrellaLand$Republic" "umbrellas" "[LUmbrellaLand$Umbrella;", Cond.fieldLink RX1 205 "UmbrellaLand$Umbrella" "takenFrom" "I", Cond.fieldLink RX1 17 "UmbrellaLand$Republic" "shelters" "[LUmbrellaLand$Shelter;", Cond.methodLink RX1 151 yX1_isUmbrella, Cond.instanceMethod yX1_isUmbrella, Cond.selects RX1 yX1_isUmbrella yX1_isUmbrella, Cond.initialized RX1, Cond.code yX1_isUmbrella cX1_isUmbrella 2 (some .boolean), Cond.fieldLink RX1 49 "UmbrellaLand$Republic" "umbrellaCount" "I", Cond.methodLink RX1 192 yX0_forgetsThisOne, Cond.instanceMethod yX0_forgetsThisOne, Cond.selects RX0 yX0_forgetsThisOne yX0_forgetsThisOne, Cond.initialized RX0, Cond.code yX0_forgetsThisOne cX0_forgetsThisOne 1 (some .boolean), Cond.fieldLink RX0 39 "UmbrellaLand$Citizen" "forgets" "I", Cond.fieldLink RX0 48 "UmbrellaLand$Citizen" "taken" "I", Cond.methodLink RX1 196 yX3_standIn, Cond.instanceMethod yX3_standIn, Cond.selects RX3 yX3_standIn yX3_standIn, Cond.initialized RX3, Cond.code yX3_standIn cX3_standIn 2 none]
def wsX1_arrive_r2 : List Cond := [Cond.fieldLink RX3 25 "UmbrellaLand$Umbrella" "state" "I", Cond.fieldLink RX3 28 "UmbrellaLand$Umbrella" "holder" "I", Cond.fieldLink RX3 31 "UmbrellaLand$Umbrella" "waits" "I", Cond.methodLink RX1 199 yX0_noteBroughtBack, Cond.instanceMethod yX0_noteBroughtBack, Cond.selects RX0 yX0_noteBroughtBack yX0_noteBroughtBack, Cond.code yX0_noteBroughtBack cX0_noteBroughtBack 1 none, Cond.fieldLink RX0 30 "UmbrellaLand$Citizen" "trust" "I", Cond.methodLink RX0 63 Lib.Math.min.name, Cond.static Lib.Math.min.name, Cond.initialized "java/lang/Math", Cond.code Lib.Math.min.name Lib.Math.min.code 2 (some .int), Cond.methodLink RX1 186 yX3_stayAway, Cond.instanceMethod yX3_stayAway, Cond.selects RX3 yX3_stayAway yX3_stayAway, Cond.code yX3_stayAway cX3_stayAway 3 none, Cond.methodLink RX1 202 yX0_noteForgotten, Cond.instanceMethod yX0_noteForgotten, Cond.selects RX0 yX0_noteForgotten yX0_noteForgotten, Cond.code yX0_noteForgotten cX0_noteForgotten 1 none, Cond.fieldLink RX0 51 "UmbrellaLand$Citizen" "forgotten" "I", Cond.methodLink RX0 57 Lib.Math.max.name, Cond.static Lib.Math.max.name, Cond.code Lib.Math.max.name Lib.Math.max.code 2 (some .int)]
def wsX1_arrive_r3 : List Cond := [Cond.methodLink RX1 96 yX1_isShelter, Cond.instanceMethod yX1_isShelter, Cond.selects RX1 yX1_isShelter yX1_isShelter, Cond.code yX1_isShelter cX1_isShelter 2 (some .boolean), Cond.fieldLink RX1 46 "UmbrellaLand$Republic" "shelterCount" "I", Cond.methodLink RX1 208 yX2_noteForgotten, Cond.instanceMethod yX2_noteForgotten, Cond.selects RX2 yX2_noteForgotten yX2_noteForgotten, Cond.initialized RX2, Cond.code yX2_noteForgotten cX2_noteForgotten 1 none, Cond.fieldLink RX2 21 "UmbrellaLand$Shelter" "forgotten" "I", Cond.fieldLink RX2 27 "UmbrellaLand$Shelter" "forgottenToday" "I"]
def wsX1_arrive : List Cond := .code yX1_arrive cX1_arrive 3 none :: ((wsX1_arrive_r1 ++ (wsX1_arrive_r2 ++ wsX1_arrive_r3)) ++ wsX00 ++ wsX10 ++ wsX30 ++ wsX20)
def wsX1_letCitizensWalk_r1 : List Cond := [Cond.fieldLink RX1 52 "UmbrellaLand$Republic" "citizenCount" "I", Cond.fieldLink RX1 29 "UmbrellaLand$Republic" "citizens" "[LUmbrellaLand$Citizen;", Cond.fieldLink RX1 170 "UmbrellaLand$Citizen" "hoursToWalk" "I", Cond.methodLink RX1 173 yX1_meetRain, Cond.instanceMethod yX1_meetRain, Cond.selects RX1 yX1_meetRain yX1_meetRain, Cond.initialized RX1, Cond.code yX1_meetRain cX1_meetRain 4 none, Cond.fieldLink RX1 163 "UmbrellaLand$Citizen" "inHand" "I", Cond.fieldLink RX1 180 "UmbrellaLand$Citizen" "wet" "I", Cond.fieldLink RX1 23 "UmbrellaLand$Republic" "umbrellas" "[LUmbrellaLand$Umbrella;", Cond.fieldLink RX1 183 "UmbrellaLand$Umbrella" "wear" "I", Cond.methodLink RX1 151 yX1_isUmbrella, Cond.instanceMethod yX1_isUmbrella, Cond.selects RX1 yX1_isUmbrella yX1_isUmbrella, Cond.code yX1_isUmbrella cX1_isUmbrella 2 (some .boolean), Cond.fieldLink RX1 49 "UmbrellaLand$Republic" "umbrellaCount" "I", Cond.methodLink RX1 186 yX3_stayAway, Cond.instanceMethod yX3_stayAway, Cond.selects RX3 yX3_stayAway yX3_stayAway, Cond.initialized RX3, Cond.code yX3_stayAway cX3_stayAway 3 none, Cond.fieldLink RX3 25 "UmbrellaLand$Umbrella" "state" "I", Cond.fieldLink RX3 28 "UmbrellaLand$Umbrella" "holder" "I"]
def wsX1_letCitizensWalk_r2 : List Cond := [Cond.fieldLink RX3 31 "UmbrellaLand$Umbrella" "waits" "I", Cond.methodLink RX1 177 yX1_arrive, Cond.instanceMethod yX1_arrive, Cond.selects RX1 yX1_arrive yX1_arrive, Cond.code yX1_arrive cX1_arrive 3 none, Cond.fieldLink RX1 189 "UmbrellaLand$Citizen" "goal" "I", Cond.fieldLink RX1 139 "UmbrellaLand$Citizen" "stays" "I", Cond.fieldLink RX1 205 "UmbrellaLand$Umbrella" "takenFrom" "I", Cond.fieldLink RX1 17 "UmbrellaLand$Republic" "shelters" "[LUmbrellaLand$Shelter;", Cond.methodLink RX1 192 yX0_forgetsThisOne, Cond.instanceMethod yX0_forgetsThisOne, Cond.selects RX0 yX0_forgetsThisOne yX0_forgetsThisOne, Cond.initialized RX0, Cond.code yX0_forgetsThisOne cX0_forgetsThisOne 1 (some .boolean), Cond.fieldLink RX0 39 "UmbrellaLand$Citizen" "forgets" "I", Cond.fieldLink RX0 48 "UmbrellaLand$Citizen" "taken" "I", Cond.methodLink RX1 196 yX3_standIn, Cond.instanceMethod yX3_standIn, Cond.selects RX3 yX3_standIn yX3_standIn, Cond.code yX3_standIn cX3_standIn 2 none, Cond.methodLink RX1 199 yX0_noteBroughtBack, Cond.instanceMethod yX0_noteBroughtBack, Cond.selects RX0 yX0_noteBroughtBack yX0_noteBroughtBack, Cond.code yX0_noteBroughtBack cX0_noteBroughtBack 1 none]
def wsX1_letCitizensWalk_r3 : List Cond := [Cond.fieldLink RX0 30 "UmbrellaLand$Citizen" "trust" "I", Cond.methodLink RX0 63 Lib.Math.min.name, Cond.static Lib.Math.min.name, Cond.initialized "java/lang/Math", Cond.code Lib.Math.min.name Lib.Math.min.code 2 (some .int), Cond.methodLink RX1 202 yX0_noteForgotten, Cond.instanceMethod yX0_noteForgotten, Cond.selects RX0 yX0_noteForgotten yX0_noteForgotten, Cond.code yX0_noteForgotten cX0_noteForgotten 1 none, Cond.fieldLink RX0 51 "UmbrellaLand$Citizen" "forgotten" "I", Cond.methodLink RX0 57 Lib.Math.max.name, Cond.static Lib.Math.max.name, Cond.code Lib.Math.max.name Lib.Math.max.code 2 (some .int), Cond.methodLink RX1 96 yX1_isShelter, Cond.instanceMethod yX1_isShelter, Cond.selects RX1 yX1_isShelter yX1_isShelter, Cond.code yX1_isShelter cX1_isShelter 2 (some .boolean), Cond.fieldLink RX1 46 "UmbrellaLand$Republic" "shelterCount" "I", Cond.methodLink RX1 208 yX2_noteForgotten, Cond.instanceMethod yX2_noteForgotten, Cond.selects RX2 yX2_noteForgotten yX2_noteForgotten, Cond.initialized RX2, Cond.code yX2_noteForgotten cX2_noteForgotten 1 none, Cond.fieldLink RX2 21 "UmbrellaLand$Shelter" "forgotten" "I"]
def wsX1_letCitizensWalk_r4 : List Cond := [Cond.fieldLink RX2 27 "UmbrellaLand$Shelter" "forgottenToday" "I"]
def wsX1_letCitizensWalk : List Cond := .code yX1_letCitizensWalk cX1_letCitizensWalk 4 none :: ((wsX1_letCitizensWalk_r1 ++ (wsX1_letCitizensWalk_r2 ++ (wsX1_letCitizensWalk_r3 ++ wsX1_letCitizensWalk_r4))) ++ wsX10 ++ wsX00 ++ wsX30 ++ wsX20)
def wsX1_umbrellasIn : List Cond := .code yX1_umbrellasIn cX1_umbrellasIn 4 (some .int) :: ([.fieldLink RX1 49 "UmbrellaLand$Republic" "umbrellaCount" "I", .fieldLink RX1 23 "UmbrellaLand$Republic" "umbrellas" "[LUmbrellaLand$Umbrella;", .methodLink RX1 213 yX3_standsIn, .instanceMethod yX3_standsIn, .selects RX3 yX3_standsIn yX3_standsIn, .initialized RX3, .code yX3_standsIn cX3_standsIn 2 (some .boolean), .fieldLink RX3 25 "UmbrellaLand$Umbrella" "state" "I", .fieldLink RX3 28 "UmbrellaLand$Umbrella" "holder" "I"] ++ wsX10 ++ wsX30)
def wsX1_driveCart_r1 : List Cond := [Cond.fieldLink RX1 46 "UmbrellaLand$Republic" "shelterCount" "I", Cond.fieldLink RX1 23 "UmbrellaLand$Republic" "umbrellas" "[LUmbrellaLand$Umbrella;", Cond.fieldLink RX1 55 "UmbrellaLand$Republic" "carried" "I", Cond.methodLink RX1 209 yX1_umbrellasIn, Cond.instanceMethod yX1_umbrellasIn, Cond.selects RX1 yX1_umbrellasIn yX1_umbrellasIn, Cond.initialized RX1, Cond.code yX1_umbrellasIn cX1_umbrellasIn 4 (some .int), Cond.fieldLink RX1 49 "UmbrellaLand$Republic" "umbrellaCount" "I", Cond.methodLink RX1 213 yX3_standsIn, Cond.instanceMethod yX3_standsIn, Cond.selects RX3 yX3_standsIn yX3_standsIn, Cond.initialized RX3, Cond.code yX3_standsIn cX3_standsIn 2 (some .boolean), Cond.fieldLink RX3 25 "UmbrellaLand$Umbrella" "state" "I", Cond.fieldLink RX3 28 "UmbrellaLand$Umbrella" "holder" "I", Cond.methodLink RX1 142 yX1_firstUmbrellaIn, Cond.instanceMethod yX1_firstUmbrellaIn, Cond.selects RX1 yX1_firstUmbrellaIn yX1_firstUmbrellaIn, Cond.code yX1_firstUmbrellaIn cX1_firstUmbrellaIn 5 (some .int), Cond.fieldLink RX1 183 "UmbrellaLand$Umbrella" "wear" "I", Cond.methodLink RX1 151 yX1_isUmbrella, Cond.instanceMethod yX1_isUmbrella, Cond.selects RX1 yX1_isUmbrella yX1_isUmbrella]
def wsX1_driveCart_r2 : List Cond := [Cond.code yX1_isUmbrella cX1_isUmbrella 2 (some .boolean), Cond.methodLink RX1 196 yX3_standIn, Cond.instanceMethod yX3_standIn, Cond.selects RX3 yX3_standIn yX3_standIn, Cond.code yX3_standIn cX3_standIn 2 none, Cond.fieldLink RX3 31 "UmbrellaLand$Umbrella" "waits" "I"]
def wsX1_driveCart : List Cond := .code yX1_driveCart cX1_driveCart 4 none :: ((wsX1_driveCart_r1 ++ wsX1_driveCart_r2) ++ wsX10 ++ wsX30)
def wsX2_endDay : List Cond := .code yX2_endDay cX2_endDay 1 none :: ([.fieldLink RX2 27 "UmbrellaLand$Shelter" "forgottenToday" "I", .fieldLink RX2 15 "UmbrellaLand$Shelter" "demand" "I", .methodLink RX2 33 Lib.Math.min.name, .static Lib.Math.min.name, .initialized "java/lang/Math", .code Lib.Math.min.name Lib.Math.min.code 2 (some .int), .fieldLink RX2 30 "UmbrellaLand$Shelter" "refusedToday" "I", .methodLink RX2 39 Lib.Math.max.name, .static Lib.Math.max.name, .code Lib.Math.max.name Lib.Math.max.code 2 (some .int)] ++ wsX20)
def wsX1_endDay : List Cond := .code yX1_endDay cX1_endDay 2 none :: ([.fieldLink RX1 46 "UmbrellaLand$Republic" "shelterCount" "I", .fieldLink RX1 17 "UmbrellaLand$Republic" "shelters" "[LUmbrellaLand$Shelter;", .methodLink RX1 212 yX2_endDay, .instanceMethod yX2_endDay, .selects RX2 yX2_endDay yX2_endDay, .initialized RX2, .code yX2_endDay cX2_endDay 1 none, .fieldLink RX2 27 "UmbrellaLand$Shelter" "forgottenToday" "I", .fieldLink RX2 15 "UmbrellaLand$Shelter" "demand" "I", .methodLink RX2 33 Lib.Math.min.name, .static Lib.Math.min.name, .initialized "java/lang/Math", .code Lib.Math.min.name Lib.Math.min.code 2 (some .int), .fieldLink RX2 30 "UmbrellaLand$Shelter" "refusedToday" "I", .methodLink RX2 39 Lib.Math.max.name, .static Lib.Math.max.name, .code Lib.Math.max.name Lib.Math.max.code 2 (some .int)] ++ wsX10 ++ wsX20)
def wsX1_letGoBy_r1 : List Cond := [Cond.fieldLink RX1 42 "UmbrellaLand$Republic" "hour" "I", Cond.fieldLink RX1 9 "UmbrellaLand$Republic" "rain" "[I", Cond.methodLink RX1 109 yJ9_floorMod_7cf53, Cond.static yJ9_floorMod_7cf53, Cond.initialized RJ9, Cond.code yJ9_floorMod_7cf53 cJ9_floorMod_7cf53 3 (some .int), Cond.methodLink RX1 112 yX1_letUmbrellasWait, Cond.instanceMethod yX1_letUmbrellasWait, Cond.selects RX1 yX1_letUmbrellasWait yX1_letUmbrellasWait, Cond.initialized RX1, Cond.code yX1_letUmbrellasWait cX1_letUmbrellasWait 2 none, Cond.fieldLink RX1 49 "UmbrellaLand$Republic" "umbrellaCount" "I", Cond.fieldLink RX1 23 "UmbrellaLand$Republic" "umbrellas" "[LUmbrellaLand$Umbrella;", Cond.methodLink RX1 127 yX3_waitAnHour, Cond.instanceMethod yX3_waitAnHour, Cond.selects RX3 yX3_waitAnHour yX3_waitAnHour, Cond.initialized RX3, Cond.code yX3_waitAnHour cX3_waitAnHour 1 none, Cond.fieldLink RX3 31 "UmbrellaLand$Umbrella" "waits" "I", Cond.fieldLink RX3 25 "UmbrellaLand$Umbrella" "state" "I", Cond.fieldLink RX3 9 "UmbrellaLand$Umbrella" "wear" "I", Cond.fieldLink RX3 18 "UmbrellaLand$Umbrella" "takenFrom" "I", Cond.methodLink RX3 21 yX3_standIn, Cond.instanceMethod yX3_standIn]
def wsX1_letGoBy_r2 : List Cond := [Cond.selects RX3 yX3_standIn yX3_standIn, Cond.code yX3_standIn cX3_standIn 2 none, Cond.fieldLink RX3 28 "UmbrellaLand$Umbrella" "holder" "I", Cond.methodLink RX1 115 yX1_letCitizensLeave, Cond.instanceMethod yX1_letCitizensLeave, Cond.selects RX1 yX1_letCitizensLeave yX1_letCitizensLeave, Cond.code yX1_letCitizensLeave cX1_letCitizensLeave 5 (some .int), Cond.fieldLink RX1 52 "UmbrellaLand$Republic" "citizenCount" "I", Cond.fieldLink RX1 29 "UmbrellaLand$Republic" "citizens" "[LUmbrellaLand$Citizen;", Cond.methodLink RX1 130 yX0_leavesAt, Cond.instanceMethod yX0_leavesAt, Cond.selects RX0 yX0_leavesAt yX0_leavesAt, Cond.initialized RX0, Cond.code yX0_leavesAt cX0_leavesAt 2 (some .boolean), Cond.fieldLink RX0 21 "UmbrellaLand$Citizen" "stays" "I", Cond.fieldLink RX0 9 "UmbrellaLand$Citizen" "home" "I", Cond.fieldLink RX0 33 "UmbrellaLand$Citizen" "leaves" "I", Cond.fieldLink RX0 15 "UmbrellaLand$Citizen" "work" "I", Cond.fieldLink RX0 36 "UmbrellaLand$Citizen" "returns" "I", Cond.methodLink RX1 133 yX1_takeUmbrella, Cond.instanceMethod yX1_takeUmbrella, Cond.selects RX1 yX1_takeUmbrella yX1_takeUmbrella, Cond.code yX1_takeUmbrella cX1_takeUmbrella 5 (some .boolean), Cond.fieldLink RX1 139 "UmbrellaLand$Citizen" "stays" "I"]
def wsX1_letGoBy_r3 : List Cond := [Cond.fieldLink RX1 17 "UmbrellaLand$Republic" "shelters" "[LUmbrellaLand$Shelter;", Cond.fieldLink RX1 145 "UmbrellaLand$Citizen" "trust" "I", Cond.fieldLink RX1 148 "UmbrellaLand$Shelter" "demand" "I", Cond.fieldLink RX1 154 "UmbrellaLand$Citizen" "refused" "I", Cond.fieldLink RX1 163 "UmbrellaLand$Citizen" "inHand" "I", Cond.fieldLink RX1 166 "UmbrellaLand$Citizen" "taken" "I", Cond.fieldLink RX1 169 "UmbrellaLand$Shelter" "taken" "I", Cond.methodLink RX1 96 yX1_isShelter, Cond.instanceMethod yX1_isShelter, Cond.selects RX1 yX1_isShelter yX1_isShelter, Cond.code yX1_isShelter cX1_isShelter 2 (some .boolean), Cond.fieldLink RX1 46 "UmbrellaLand$Republic" "shelterCount" "I", Cond.methodLink RX1 142 yX1_firstUmbrellaIn, Cond.instanceMethod yX1_firstUmbrellaIn, Cond.selects RX1 yX1_firstUmbrellaIn yX1_firstUmbrellaIn, Cond.code yX1_firstUmbrellaIn cX1_firstUmbrellaIn 5 (some .int), Cond.fieldLink RX1 183 "UmbrellaLand$Umbrella" "wear" "I", Cond.methodLink RX1 213 yX3_standsIn, Cond.instanceMethod yX3_standsIn, Cond.selects RX3 yX3_standsIn yX3_standsIn, Cond.code yX3_standsIn cX3_standsIn 2 (some .boolean), Cond.methodLink RX1 151 yX1_isUmbrella, Cond.instanceMethod yX1_isUmbrella, Cond.selects RX1 yX1_isUmbrella yX1_isUmbrella]
def wsX1_letGoBy_r4 : List Cond := [Cond.code yX1_isUmbrella cX1_isUmbrella 2 (some .boolean), Cond.methodLink RX1 157 yX2_noteRefusal, Cond.instanceMethod yX2_noteRefusal, Cond.selects RX2 yX2_noteRefusal yX2_noteRefusal, Cond.initialized RX2, Cond.code yX2_noteRefusal cX2_noteRefusal 1 none, Cond.fieldLink RX2 24 "UmbrellaLand$Shelter" "refused" "I", Cond.fieldLink RX2 30 "UmbrellaLand$Shelter" "refusedToday" "I", Cond.methodLink RX1 160 yX3_goWith, Cond.instanceMethod yX3_goWith, Cond.selects RX3 yX3_goWith yX3_goWith, Cond.code yX3_goWith cX3_goWith 2 none, Cond.fieldLink RX3 15 "UmbrellaLand$Umbrella" "taken" "I", Cond.methodLink RX1 136 yX0_setOut, Cond.instanceMethod yX0_setOut, Cond.selects RX0 yX0_setOut yX0_setOut, Cond.code yX0_setOut cX0_setOut 1 none, Cond.fieldLink RX0 24 "UmbrellaLand$Citizen" "goal" "I", Cond.fieldLink RX0 18 "UmbrellaLand$Citizen" "hoursOfWalk" "I", Cond.fieldLink RX0 42 "UmbrellaLand$Citizen" "hoursToWalk" "I", Cond.methodLink RX1 118 yX1_letCitizensWalk, Cond.instanceMethod yX1_letCitizensWalk, Cond.selects RX1 yX1_letCitizensWalk yX1_letCitizensWalk, Cond.code yX1_letCitizensWalk cX1_letCitizensWalk 4 none]
def wsX1_letGoBy_r5 : List Cond := [Cond.fieldLink RX1 170 "UmbrellaLand$Citizen" "hoursToWalk" "I", Cond.methodLink RX1 173 yX1_meetRain, Cond.instanceMethod yX1_meetRain, Cond.selects RX1 yX1_meetRain yX1_meetRain, Cond.code yX1_meetRain cX1_meetRain 4 none, Cond.fieldLink RX1 180 "UmbrellaLand$Citizen" "wet" "I", Cond.methodLink RX1 186 yX3_stayAway, Cond.instanceMethod yX3_stayAway, Cond.selects RX3 yX3_stayAway yX3_stayAway, Cond.code yX3_stayAway cX3_stayAway 3 none, Cond.methodLink RX1 177 yX1_arrive, Cond.instanceMethod yX1_arrive, Cond.selects RX1 yX1_arrive yX1_arrive, Cond.code yX1_arrive cX1_arrive 3 none, Cond.fieldLink RX1 189 "UmbrellaLand$Citizen" "goal" "I", Cond.fieldLink RX1 205 "UmbrellaLand$Umbrella" "takenFrom" "I", Cond.methodLink RX1 192 yX0_forgetsThisOne, Cond.instanceMethod yX0_forgetsThisOne, Cond.selects RX0 yX0_forgetsThisOne yX0_forgetsThisOne, Cond.code yX0_forgetsThisOne cX0_forgetsThisOne 1 (some .boolean), Cond.fieldLink RX0 39 "UmbrellaLand$Citizen" "forgets" "I", Cond.fieldLink RX0 48 "UmbrellaLand$Citizen" "taken" "I", Cond.methodLink RX1 196 yX3_standIn, Cond.methodLink RX1 199 yX0_noteBroughtBack]
def wsX1_letGoBy_r6 : List Cond := [Cond.instanceMethod yX0_noteBroughtBack, Cond.selects RX0 yX0_noteBroughtBack yX0_noteBroughtBack, Cond.code yX0_noteBroughtBack cX0_noteBroughtBack 1 none, Cond.fieldLink RX0 30 "UmbrellaLand$Citizen" "trust" "I", Cond.methodLink RX0 63 Lib.Math.min.name, Cond.static Lib.Math.min.name, Cond.initialized "java/lang/Math", Cond.code Lib.Math.min.name Lib.Math.min.code 2 (some .int), Cond.methodLink RX1 202 yX0_noteForgotten, Cond.instanceMethod yX0_noteForgotten, Cond.selects RX0 yX0_noteForgotten yX0_noteForgotten, Cond.code yX0_noteForgotten cX0_noteForgotten 1 none, Cond.fieldLink RX0 51 "UmbrellaLand$Citizen" "forgotten" "I", Cond.methodLink RX0 57 Lib.Math.max.name, Cond.static Lib.Math.max.name, Cond.code Lib.Math.max.name Lib.Math.max.code 2 (some .int), Cond.methodLink RX1 208 yX2_noteForgotten, Cond.instanceMethod yX2_noteForgotten, Cond.selects RX2 yX2_noteForgotten yX2_noteForgotten, Cond.code yX2_noteForgotten cX2_noteForgotten 1 none, Cond.fieldLink RX2 21 "UmbrellaLand$Shelter" "forgotten" "I", Cond.fieldLink RX2 27 "UmbrellaLand$Shelter" "forgottenToday" "I", Cond.methodLink RX1 121 yX1_driveCart, Cond.instanceMethod yX1_driveCart]
def wsX1_letGoBy_r7 : List Cond := [Cond.selects RX1 yX1_driveCart yX1_driveCart, Cond.code yX1_driveCart cX1_driveCart 4 none, Cond.fieldLink RX1 55 "UmbrellaLand$Republic" "carried" "I", Cond.methodLink RX1 209 yX1_umbrellasIn, Cond.instanceMethod yX1_umbrellasIn, Cond.selects RX1 yX1_umbrellasIn yX1_umbrellasIn, Cond.code yX1_umbrellasIn cX1_umbrellasIn 4 (some .int), Cond.methodLink RX1 124 yX1_endDay, Cond.instanceMethod yX1_endDay, Cond.selects RX1 yX1_endDay yX1_endDay, Cond.code yX1_endDay cX1_endDay 2 none, Cond.methodLink RX1 212 yX2_endDay, Cond.instanceMethod yX2_endDay, Cond.selects RX2 yX2_endDay yX2_endDay, Cond.code yX2_endDay cX2_endDay 1 none, Cond.fieldLink RX2 15 "UmbrellaLand$Shelter" "demand" "I", Cond.methodLink RX2 33 Lib.Math.min.name, Cond.methodLink RX2 39 Lib.Math.max.name]
def wsX1_letGoBy : List Cond := .code yX1_letGoBy cX1_letGoBy 5 (some .int) :: ((wsX1_letGoBy_r1 ++ (wsX1_letGoBy_r2 ++ (wsX1_letGoBy_r3 ++ (wsX1_letGoBy_r4 ++ (wsX1_letGoBy_r5 ++ (wsX1_letGoBy_r6 ++ wsX1_letGoBy_r7)))))) ++ wsX10 ++ wsX30 ++ wsX00 ++ wsX20)
def wsX1_citizensIn : List Cond := .code yX1_citizensIn cX1_citizensIn 4 (some .int) :: ([.fieldLink RX1 52 "UmbrellaLand$Republic" "citizenCount" "I", .fieldLink RX1 29 "UmbrellaLand$Republic" "citizens" "[LUmbrellaLand$Citizen;", .fieldLink RX1 139 "UmbrellaLand$Citizen" "stays" "I"] ++ wsX10 ++ wsX00)
def wsX1_umbrellasThatAre : List Cond := .code yX1_umbrellasThatAre cX1_umbrellasThatAre 4 (some .int) :: ([.fieldLink RX1 49 "UmbrellaLand$Republic" "umbrellaCount" "I", .fieldLink RX1 23 "UmbrellaLand$Republic" "umbrellas" "[LUmbrellaLand$Umbrella;", .fieldLink RX1 216 "UmbrellaLand$Umbrella" "state" "I"] ++ wsX10 ++ wsX30)
def wsX1_wetOfAll : List Cond := .code yX1_wetOfAll cX1_wetOfAll 3 (some .int) :: ([.fieldLink RX1 52 "UmbrellaLand$Republic" "citizenCount" "I", .fieldLink RX1 29 "UmbrellaLand$Republic" "citizens" "[LUmbrellaLand$Citizen;", .fieldLink RX1 180 "UmbrellaLand$Citizen" "wet" "I"] ++ wsX10 ++ wsX00)
def wsX1_trustOfAll : List Cond := .code yX1_trustOfAll cX1_trustOfAll 3 (some .int) :: ([.fieldLink RX1 52 "UmbrellaLand$Republic" "citizenCount" "I", .fieldLink RX1 29 "UmbrellaLand$Republic" "citizens" "[LUmbrellaLand$Citizen;", .fieldLink RX1 145 "UmbrellaLand$Citizen" "trust" "I"] ++ wsX10 ++ wsX00)
def wsX1_tellShelter_r1 : List Cond := [Cond.fieldLink RX1 17 "UmbrellaLand$Republic" "shelters" "[LUmbrellaLand$Shelter;", Cond.fieldLink RX1 68 "UmbrellaLand$Shelter" "place" "I", Cond.fieldLink RX1 148 "UmbrellaLand$Shelter" "demand" "I", Cond.fieldLink RX1 169 "UmbrellaLand$Shelter" "taken" "I", Cond.fieldLink RX1 222 "UmbrellaLand$Shelter" "forgotten" "I", Cond.fieldLink RX1 225 "UmbrellaLand$Shelter" "refused" "I", Cond.methodLink RX1 96 yX1_isShelter, Cond.instanceMethod yX1_isShelter, Cond.selects RX1 yX1_isShelter yX1_isShelter, Cond.initialized RX1, Cond.code yX1_isShelter cX1_isShelter 2 (some .boolean), Cond.fieldLink RX1 46 "UmbrellaLand$Republic" "shelterCount" "I", Cond.methodLink RX1 209 yX1_umbrellasIn, Cond.instanceMethod yX1_umbrellasIn, Cond.selects RX1 yX1_umbrellasIn yX1_umbrellasIn, Cond.code yX1_umbrellasIn cX1_umbrellasIn 4 (some .int), Cond.fieldLink RX1 49 "UmbrellaLand$Republic" "umbrellaCount" "I", Cond.fieldLink RX1 23 "UmbrellaLand$Republic" "umbrellas" "[LUmbrellaLand$Umbrella;", Cond.methodLink RX1 213 yX3_standsIn, Cond.instanceMethod yX3_standsIn, Cond.selects RX3 yX3_standsIn yX3_standsIn, Cond.initialized RX3, Cond.code yX3_standsIn cX3_standsIn 2 (some .boolean), Cond.fieldLink RX3 25 "UmbrellaLand$Umbrella" "state" "I"]
def wsX1_tellShelter_r2 : List Cond := [Cond.fieldLink RX3 28 "UmbrellaLand$Umbrella" "holder" "I", Cond.methodLink RX1 219 yX1_citizensIn, Cond.instanceMethod yX1_citizensIn, Cond.selects RX1 yX1_citizensIn yX1_citizensIn, Cond.code yX1_citizensIn cX1_citizensIn 4 (some .int), Cond.fieldLink RX1 52 "UmbrellaLand$Republic" "citizenCount" "I", Cond.fieldLink RX1 29 "UmbrellaLand$Republic" "citizens" "[LUmbrellaLand$Citizen;", Cond.fieldLink RX1 139 "UmbrellaLand$Citizen" "stays" "I", Cond.methodLink RX1 142 yX1_firstUmbrellaIn, Cond.instanceMethod yX1_firstUmbrellaIn, Cond.selects RX1 yX1_firstUmbrellaIn yX1_firstUmbrellaIn, Cond.code yX1_firstUmbrellaIn cX1_firstUmbrellaIn 5 (some .int), Cond.fieldLink RX1 183 "UmbrellaLand$Umbrella" "wear" "I"]
def wsX1_tellShelter : List Cond := .code yX1_tellShelter cX1_tellShelter 4 (some .int) :: ((wsX1_tellShelter_r1 ++ wsX1_tellShelter_r2) ++ wsX10 ++ wsX20 ++ wsX30 ++ wsX00)
def wsX1_tellAll : List Cond := .code yX1_tellAll cX1_tellAll 2 (some .int) :: ([.fieldLink RX1 42 "UmbrellaLand$Republic" "hour" "I", .fieldLink RX1 46 "UmbrellaLand$Republic" "shelterCount" "I", .fieldLink RX1 49 "UmbrellaLand$Republic" "umbrellaCount" "I", .fieldLink RX1 52 "UmbrellaLand$Republic" "citizenCount" "I", .fieldLink RX1 55 "UmbrellaLand$Republic" "carried" "I", .methodLink RX1 226 yX1_umbrellasThatAre, .instanceMethod yX1_umbrellasThatAre, .selects RX1 yX1_umbrellasThatAre yX1_umbrellasThatAre, .initialized RX1, .code yX1_umbrellasThatAre cX1_umbrellasThatAre 4 (some .int), .fieldLink RX1 23 "UmbrellaLand$Republic" "umbrellas" "[LUmbrellaLand$Umbrella;", .fieldLink RX1 216 "UmbrellaLand$Umbrella" "state" "I", .methodLink RX1 219 yX1_citizensIn, .instanceMethod yX1_citizensIn, .selects RX1 yX1_citizensIn yX1_citizensIn, .code yX1_citizensIn cX1_citizensIn 4 (some .int), .fieldLink RX1 29 "UmbrellaLand$Republic" "citizens" "[LUmbrellaLand$Citizen;", .fieldLink RX1 139 "UmbrellaLand$Citizen" "stays" "I", .methodLink RX1 229 yX1_wetOfAll, .instanceMethod yX1_wetOfAll, .selects RX1 yX1_wetOfAll yX1_wetOfAll, .code yX1_wetOfAll cX1_wetOfAll 3 (some .int), .fieldLink RX1 180 "UmbrellaLand$Citizen" "wet" "I"] ++ wsX10 ++ wsX30 ++ wsX00)
def wsX3_tell : List Cond := .code yX3_tell cX3_tell 2 (some .int) :: ([.fieldLink RX3 25 "UmbrellaLand$Umbrella" "state" "I", .fieldLink RX3 28 "UmbrellaLand$Umbrella" "holder" "I", .fieldLink RX3 9 "UmbrellaLand$Umbrella" "wear" "I", .fieldLink RX3 31 "UmbrellaLand$Umbrella" "waits" "I", .fieldLink RX3 15 "UmbrellaLand$Umbrella" "taken" "I", .fieldLink RX3 18 "UmbrellaLand$Umbrella" "takenFrom" "I"] ++ wsX30)
def wsX4_init_r1 : List Cond := [Cond.methodLink RX4 1 objectInit, Cond.instanceMethod objectInit, Cond.code objectInit ⟨#[0xb1]⟩ 1 none, Cond.classLink RX4 7 RX1, Cond.instantiable RX1 9, Cond.initialized RX1, Cond.fieldLink RX4 10 "UmbrellaLand" "now" "LUmbrellaLand$Republic;", Cond.fieldLink RX4 16 "UmbrellaLand" "ahead" "LUmbrellaLand$Republic;", Cond.methodLink RX4 9 yX1_init, Cond.instanceMethod yX1_init, Cond.code yX1_init cX1_init 2 none, Cond.methodLink RX1 3 objectInit, Cond.arrayClass .int, Cond.fieldLink RX1 9 "UmbrellaLand$Republic" "rain" "[I", Cond.classLink RX1 15 RX2, Cond.fieldLink RX1 17 "UmbrellaLand$Republic" "shelters" "[LUmbrellaLand$Shelter;", Cond.classLink RX1 21 RX3, Cond.fieldLink RX1 23 "UmbrellaLand$Republic" "umbrellas" "[LUmbrellaLand$Umbrella;", Cond.classLink RX1 27 RX0, Cond.fieldLink RX1 29 "UmbrellaLand$Republic" "citizens" "[LUmbrellaLand$Citizen;", Cond.instantiable RX2 7, Cond.initialized RX2, Cond.instantiable RX3 6, Cond.initialized RX3]
def wsX4_init_r2 : List Cond := [Cond.instantiable RX0 15, Cond.initialized RX0, Cond.instanceMethod yX2_init, Cond.code yX2_init cX2_init 1 none, Cond.methodLink RX2 3 objectInit, Cond.instanceMethod yX3_init, Cond.code yX3_init cX3_init 1 none, Cond.methodLink RX3 3 objectInit, Cond.instanceMethod yX0_init, Cond.code yX0_init cX0_init 1 none, Cond.methodLink RX0 3 objectInit]
def wsX4_init : List Cond := .code yX4_init cX4_init 1 none :: ((wsX4_init_r1 ++ wsX4_init_r2) ++ wsX10 ++ wsX40 ++ wsX20 ++ wsX30 ++ wsX00)
def wsX4_isWithin : List Cond := .code yX4_isWithin cX4_isWithin 3 (some .boolean) :: ([])
def wsX4_build_r1 : List Cond := [Cond.classLink RX4 23 "java/lang/IllegalArgumentException", Cond.initialized "java/lang/IllegalArgumentException", Cond.classLink RX4 38 "java/lang/IllegalStateException", Cond.initialized "java/lang/IllegalStateException", Cond.fieldLink RX4 10 "UmbrellaLand" "now" "LUmbrellaLand$Republic;", Cond.fieldLink RX4 30 "UmbrellaLand$Republic" "shelterCount" "I", Cond.methodLink RX4 19 yX4_isWithin, Cond.static yX4_isWithin, Cond.initialized RX4, Cond.code yX4_isWithin cX4_isWithin 3 (some .boolean), Cond.methodLink RX4 34 yX1_isBuiltOn, Cond.instanceMethod yX1_isBuiltOn, Cond.selects RX1 yX1_isBuiltOn yX1_isBuiltOn, Cond.initialized RX1, Cond.code yX1_isBuiltOn cX1_isBuiltOn 3 (some .boolean), Cond.fieldLink RX1 46 "UmbrellaLand$Republic" "shelterCount" "I", Cond.fieldLink RX1 17 "UmbrellaLand$Republic" "shelters" "[LUmbrellaLand$Shelter;", Cond.fieldLink RX1 68 "UmbrellaLand$Shelter" "place" "I", Cond.methodLink RX4 43 yX1_addShelter, Cond.instanceMethod yX1_addShelter, Cond.selects RX1 yX1_addShelter yX1_addShelter, Cond.code yX1_addShelter cX1_addShelter 3 (some .int), Cond.methodLink RX1 71 yX2_open, Cond.instanceMethod yX2_open]
def wsX4_build_r2 : List Cond := [Cond.selects RX2 yX2_open yX2_open, Cond.initialized RX2, Cond.code yX2_open cX2_open 3 none, Cond.fieldLink RX2 9 "UmbrellaLand$Shelter" "place" "I", Cond.fieldLink RX2 15 "UmbrellaLand$Shelter" "demand" "I"]
def wsX4_build : List Cond := .code yX4_build cX4_build 3 (some .int) :: ((wsX4_build_r1 ++ wsX4_build_r2) ++ wsX40 ++ wsX10 ++ wsX20 ++ (vx_atS RX4 27 "java/lang/IllegalArgumentException" ["java/lang/RuntimeException", "java/lang/Exception"]).filter goodWord ++ (vx_atS RX4 42 "java/lang/IllegalStateException" ["java/lang/RuntimeException", "java/lang/Exception"]).filter goodWord)
def wsX4_checkShelter : List Cond := .code yX4_checkShelter cX4_checkShelter 2 none :: ([.classLink RX4 179 "java/lang/IndexOutOfBoundsException", .initialized "java/lang/IndexOutOfBoundsException", .fieldLink RX4 10 "UmbrellaLand" "now" "LUmbrellaLand$Republic;", .methodLink RX4 176 yX1_isShelter, .instanceMethod yX1_isShelter, .selects RX1 yX1_isShelter yX1_isShelter, .initialized RX1, .code yX1_isShelter cX1_isShelter 2 (some .boolean), .fieldLink RX1 46 "UmbrellaLand$Republic" "shelterCount" "I"] ++ wsX40 ++ wsX10 ++ (vx_atS RX4 183 "java/lang/IndexOutOfBoundsException" ["java/lang/RuntimeException", "java/lang/Exception"]).filter goodWord)
def wsX4_bring_r1 : List Cond := [Cond.classLink RX4 23 "java/lang/IllegalArgumentException", Cond.initialized "java/lang/IllegalArgumentException", Cond.classLink RX4 38 "java/lang/IllegalStateException", Cond.initialized "java/lang/IllegalStateException", Cond.fieldLink RX4 10 "UmbrellaLand" "now" "LUmbrellaLand$Republic;", Cond.fieldLink RX4 53 "UmbrellaLand$Republic" "umbrellaCount" "I", Cond.methodLink RX4 47 yX4_checkShelter, Cond.instanceMethod yX4_checkShelter, Cond.selects RX4 yX4_checkShelter yX4_checkShelter, Cond.initialized RX4, Cond.code yX4_checkShelter cX4_checkShelter 2 none, Cond.classLink RX4 179 "java/lang/IndexOutOfBoundsException", Cond.initialized "java/lang/IndexOutOfBoundsException", Cond.methodLink RX4 176 yX1_isShelter, Cond.instanceMethod yX1_isShelter, Cond.selects RX1 yX1_isShelter yX1_isShelter, Cond.initialized RX1, Cond.code yX1_isShelter cX1_isShelter 2 (some .boolean), Cond.fieldLink RX1 46 "UmbrellaLand$Republic" "shelterCount" "I", Cond.methodLink RX4 19 yX4_isWithin, Cond.static yX4_isWithin, Cond.code yX4_isWithin cX4_isWithin 3 (some .boolean), Cond.methodLink RX4 58 yX1_addUmbrella, Cond.instanceMethod yX1_addUmbrella]
def wsX4_bring_r2 : List Cond := [Cond.selects RX1 yX1_addUmbrella yX1_addUmbrella, Cond.code yX1_addUmbrella cX1_addUmbrella 2 none, Cond.fieldLink RX1 49 "UmbrellaLand$Republic" "umbrellaCount" "I", Cond.fieldLink RX1 23 "UmbrellaLand$Republic" "umbrellas" "[LUmbrellaLand$Umbrella;", Cond.methodLink RX1 75 yX3_beNewIn, Cond.instanceMethod yX3_beNewIn, Cond.selects RX3 yX3_beNewIn yX3_beNewIn, Cond.initialized RX3, Cond.code yX3_beNewIn cX3_beNewIn 2 none, Cond.fieldLink RX3 9 "UmbrellaLand$Umbrella" "wear" "I", Cond.fieldLink RX3 15 "UmbrellaLand$Umbrella" "taken" "I", Cond.fieldLink RX3 18 "UmbrellaLand$Umbrella" "takenFrom" "I", Cond.methodLink RX3 21 yX3_standIn, Cond.instanceMethod yX3_standIn, Cond.selects RX3 yX3_standIn yX3_standIn, Cond.code yX3_standIn cX3_standIn 2 none, Cond.fieldLink RX3 25 "UmbrellaLand$Umbrella" "state" "I", Cond.fieldLink RX3 28 "UmbrellaLand$Umbrella" "holder" "I", Cond.fieldLink RX3 31 "UmbrellaLand$Umbrella" "waits" "I"]
def wsX4_bring : List Cond := .code yX4_bring cX4_bring 4 (some .int) :: ((wsX4_bring_r1 ++ wsX4_bring_r2) ++ wsX40 ++ wsX10 ++ wsX30 ++ (vx_atS RX4 27 "java/lang/IllegalArgumentException" ["java/lang/RuntimeException", "java/lang/Exception"]).filter goodWord ++ (vx_atS RX4 42 "java/lang/IllegalStateException" ["java/lang/RuntimeException", "java/lang/Exception"]).filter goodWord ++ (vx_atS RX4 183 "java/lang/IndexOutOfBoundsException" ["java/lang/RuntimeException", "java/lang/Exception"]).filter goodWord)
def wsX4_isHourOfDay : List Cond := .code yX4_isHourOfDay cX4_isHourOfDay 1 (some .boolean) :: ([.methodLink RX4 19 yX4_isWithin, .static yX4_isWithin, .initialized RX4, .code yX4_isWithin cX4_isWithin 3 (some .boolean)])
def wsX4_addCitizen_r1 : List Cond := [Cond.classLink RX4 23 "java/lang/IllegalArgumentException", Cond.initialized "java/lang/IllegalArgumentException", Cond.classLink RX4 38 "java/lang/IllegalStateException", Cond.initialized "java/lang/IllegalStateException", Cond.fieldLink RX4 10 "UmbrellaLand" "now" "LUmbrellaLand$Republic;", Cond.fieldLink RX4 68 "UmbrellaLand$Republic" "citizenCount" "I", Cond.methodLink RX4 47 yX4_checkShelter, Cond.instanceMethod yX4_checkShelter, Cond.selects RX4 yX4_checkShelter yX4_checkShelter, Cond.initialized RX4, Cond.code yX4_checkShelter cX4_checkShelter 2 none, Cond.classLink RX4 179 "java/lang/IndexOutOfBoundsException", Cond.initialized "java/lang/IndexOutOfBoundsException", Cond.methodLink RX4 176 yX1_isShelter, Cond.instanceMethod yX1_isShelter, Cond.selects RX1 yX1_isShelter yX1_isShelter, Cond.initialized RX1, Cond.code yX1_isShelter cX1_isShelter 2 (some .boolean), Cond.fieldLink RX1 46 "UmbrellaLand$Republic" "shelterCount" "I", Cond.methodLink RX4 63 yX4_isHourOfDay, Cond.static yX4_isHourOfDay, Cond.code yX4_isHourOfDay cX4_isHourOfDay 1 (some .boolean), Cond.methodLink RX4 19 yX4_isWithin, Cond.static yX4_isWithin]
def wsX4_addCitizen_r2 : List Cond := [Cond.code yX4_isWithin cX4_isWithin 3 (some .boolean), Cond.methodLink RX4 73 yX1_addPerson, Cond.instanceMethod yX1_addPerson, Cond.selects RX1 yX1_addPerson yX1_addPerson, Cond.code yX1_addPerson cX1_addPerson 7 (some .int), Cond.fieldLink RX1 52 "UmbrellaLand$Republic" "citizenCount" "I", Cond.fieldLink RX1 29 "UmbrellaLand$Republic" "citizens" "[LUmbrellaLand$Citizen;", Cond.fieldLink RX1 87 "UmbrellaLand$Citizen" "leaves" "I", Cond.fieldLink RX1 90 "UmbrellaLand$Citizen" "returns" "I", Cond.fieldLink RX1 93 "UmbrellaLand$Citizen" "forgets" "I", Cond.methodLink RX1 79 yX1_hoursBetween, Cond.instanceMethod yX1_hoursBetween, Cond.selects RX1 yX1_hoursBetween yX1_hoursBetween, Cond.code yX1_hoursBetween cX1_hoursBetween 3 (some .int), Cond.fieldLink RX1 17 "UmbrellaLand$Republic" "shelters" "[LUmbrellaLand$Shelter;", Cond.fieldLink RX1 68 "UmbrellaLand$Shelter" "place" "I", Cond.methodLink RX1 100 Lib.Math.abs.name, Cond.static Lib.Math.abs.name, Cond.initialized "java/lang/Math", Cond.code Lib.Math.abs.name Lib.Math.abs.code 1 (some .int), Cond.methodLink RX1 106 Lib.Math.max.name, Cond.static Lib.Math.max.name, Cond.code Lib.Math.max.name Lib.Math.max.code 2 (some .int), Cond.methodLink RX1 96 yX1_isShelter]
def wsX4_addCitizen_r3 : List Cond := [Cond.methodLink RX1 83 yX0_settle, Cond.instanceMethod yX0_settle, Cond.selects RX0 yX0_settle yX0_settle, Cond.initialized RX0, Cond.code yX0_settle cX0_settle 4 none, Cond.fieldLink RX0 9 "UmbrellaLand$Citizen" "home" "I", Cond.fieldLink RX0 15 "UmbrellaLand$Citizen" "work" "I", Cond.fieldLink RX0 18 "UmbrellaLand$Citizen" "hoursOfWalk" "I", Cond.fieldLink RX0 21 "UmbrellaLand$Citizen" "stays" "I", Cond.fieldLink RX0 24 "UmbrellaLand$Citizen" "goal" "I", Cond.fieldLink RX0 27 "UmbrellaLand$Citizen" "inHand" "I", Cond.fieldLink RX0 30 "UmbrellaLand$Citizen" "trust" "I"]
def wsX4_addCitizen : List Cond := .code yX4_addCitizen cX4_addCitizen 6 (some .int) :: ((wsX4_addCitizen_r1 ++ (wsX4_addCitizen_r2 ++ wsX4_addCitizen_r3)) ++ wsX40 ++ wsX10 ++ wsX00 ++ wsX20 ++ (vx_atS RX4 27 "java/lang/IllegalArgumentException" ["java/lang/RuntimeException", "java/lang/Exception"]).filter goodWord ++ (vx_atS RX4 42 "java/lang/IllegalStateException" ["java/lang/RuntimeException", "java/lang/Exception"]).filter goodWord ++ (vx_atS RX4 183 "java/lang/IndexOutOfBoundsException" ["java/lang/RuntimeException", "java/lang/Exception"]).filter goodWord)
def wsX4_checkHourOfDay : List Cond := .code yX4_checkHourOfDay cX4_checkHourOfDay 1 none :: ([.classLink RX4 179 "java/lang/IndexOutOfBoundsException", .initialized "java/lang/IndexOutOfBoundsException", .methodLink RX4 63 yX4_isHourOfDay, .static yX4_isHourOfDay, .initialized RX4, .code yX4_isHourOfDay cX4_isHourOfDay 1 (some .boolean), .methodLink RX4 19 yX4_isWithin, .static yX4_isWithin, .code yX4_isWithin cX4_isWithin 3 (some .boolean)] ++ (vx_atS RX4 183 "java/lang/IndexOutOfBoundsException" ["java/lang/RuntimeException", "java/lang/Exception"]).filter goodWord)
def wsX4_setRain : List Cond := .code yX4_setRain cX4_setRain 4 (some .int) :: ([.classLink RX4 23 "java/lang/IllegalArgumentException", .initialized "java/lang/IllegalArgumentException", .fieldLink RX4 10 "UmbrellaLand" "now" "LUmbrellaLand$Republic;", .fieldLink RX4 82 "UmbrellaLand$Republic" "rain" "[I", .methodLink RX4 77 yX4_checkHourOfDay, .static yX4_checkHourOfDay, .initialized RX4, .code yX4_checkHourOfDay cX4_checkHourOfDay 1 none, .classLink RX4 179 "java/lang/IndexOutOfBoundsException", .initialized "java/lang/IndexOutOfBoundsException", .methodLink RX4 63 yX4_isHourOfDay, .static yX4_isHourOfDay, .code yX4_isHourOfDay cX4_isHourOfDay 1 (some .boolean), .methodLink RX4 19 yX4_isWithin, .static yX4_isWithin, .code yX4_isWithin cX4_isWithin 3 (some .boolean)] ++ wsX40 ++ wsX10 ++ (vx_atS RX4 27 "java/lang/IllegalArgumentException" ["java/lang/RuntimeException", "java/lang/Exception"]).filter goodWord ++ (vx_atS RX4 183 "java/lang/IndexOutOfBoundsException" ["java/lang/RuntimeException", "java/lang/Exception"]).filter goodWord)
def wsX4_setDemand : List Cond := .code yX4_setDemand cX4_setDemand 4 (some .int) :: ([.classLink RX4 23 "java/lang/IllegalArgumentException", .initialized "java/lang/IllegalArgumentException", .fieldLink RX4 10 "UmbrellaLand" "now" "LUmbrellaLand$Republic;", .fieldLink RX4 88 "UmbrellaLand$Republic" "shelters" "[LUmbrellaLand$Shelter;", .fieldLink RX4 92 "UmbrellaLand$Shelter" "demand" "I", .methodLink RX4 47 yX4_checkShelter, .instanceMethod yX4_checkShelter, .selects RX4 yX4_checkShelter yX4_checkShelter, .initialized RX4, .code yX4_checkShelter cX4_checkShelter 2 none, .classLink RX4 179 "java/lang/IndexOutOfBoundsException", .initialized "java/lang/IndexOutOfBoundsException", .methodLink RX4 176 yX1_isShelter, .instanceMethod yX1_isShelter, .selects RX1 yX1_isShelter yX1_isShelter, .initialized RX1, .code yX1_isShelter cX1_isShelter 2 (some .boolean), .fieldLink RX1 46 "UmbrellaLand$Republic" "shelterCount" "I", .methodLink RX4 19 yX4_isWithin, .static yX4_isWithin, .code yX4_isWithin cX4_isWithin 3 (some .boolean)] ++ wsX40 ++ wsX10 ++ wsX20 ++ (vx_atS RX4 27 "java/lang/IllegalArgumentException" ["java/lang/RuntimeException", "java/lang/Exception"]).filter goodWord ++ (vx_atS RX4 183 "java/lang/IndexOutOfBoundsException" ["java/lang/RuntimeException", "java/lang/Exception"]).filter goodWord)
def wsX4_checkWhat : List Cond := .code yX4_checkWhat cX4_checkWhat 2 none :: ([.classLink RX4 179 "java/lang/IndexOutOfBoundsException", .initialized "java/lang/IndexOutOfBoundsException", .methodLink RX4 19 yX4_isWithin, .static yX4_isWithin, .initialized RX4, .code yX4_isWithin cX4_isWithin 3 (some .boolean)] ++ (vx_atS RX4 183 "java/lang/IndexOutOfBoundsException" ["java/lang/RuntimeException", "java/lang/Exception"]).filter goodWord)
def wsX4_shelter_r1 : List Cond := [Cond.fieldLink RX4 10 "UmbrellaLand" "now" "LUmbrellaLand$Republic;", Cond.methodLink RX4 47 yX4_checkShelter, Cond.instanceMethod yX4_checkShelter, Cond.selects RX4 yX4_checkShelter yX4_checkShelter, Cond.initialized RX4, Cond.code yX4_checkShelter cX4_checkShelter 2 none, Cond.classLink RX4 179 "java/lang/IndexOutOfBoundsException", Cond.initialized "java/lang/IndexOutOfBoundsException", Cond.methodLink RX4 176 yX1_isShelter, Cond.instanceMethod yX1_isShelter, Cond.selects RX1 yX1_isShelter yX1_isShelter, Cond.initialized RX1, Cond.code yX1_isShelter cX1_isShelter 2 (some .boolean), Cond.fieldLink RX1 46 "UmbrellaLand$Republic" "shelterCount" "I", Cond.methodLink RX4 97 yX4_checkWhat, Cond.static yX4_checkWhat, Cond.code yX4_checkWhat cX4_checkWhat 2 none, Cond.methodLink RX4 19 yX4_isWithin, Cond.static yX4_isWithin, Cond.code yX4_isWithin cX4_isWithin 3 (some .boolean), Cond.methodLink RX4 101 yX1_tellShelter, Cond.instanceMethod yX1_tellShelter, Cond.selects RX1 yX1_tellShelter yX1_tellShelter, Cond.code yX1_tellShelter cX1_tellShelter 4 (some .int)]
def wsX4_shelter_r2 : List Cond := [Cond.fieldLink RX1 17 "UmbrellaLand$Republic" "shelters" "[LUmbrellaLand$Shelter;", Cond.fieldLink RX1 68 "UmbrellaLand$Shelter" "place" "I", Cond.fieldLink RX1 148 "UmbrellaLand$Shelter" "demand" "I", Cond.fieldLink RX1 169 "UmbrellaLand$Shelter" "taken" "I", Cond.fieldLink RX1 222 "UmbrellaLand$Shelter" "forgotten" "I", Cond.fieldLink RX1 225 "UmbrellaLand$Shelter" "refused" "I", Cond.methodLink RX1 96 yX1_isShelter, Cond.methodLink RX1 209 yX1_umbrellasIn, Cond.instanceMethod yX1_umbrellasIn, Cond.selects RX1 yX1_umbrellasIn yX1_umbrellasIn, Cond.code yX1_umbrellasIn cX1_umbrellasIn 4 (some .int), Cond.fieldLink RX1 49 "UmbrellaLand$Republic" "umbrellaCount" "I", Cond.fieldLink RX1 23 "UmbrellaLand$Republic" "umbrellas" "[LUmbrellaLand$Umbrella;", Cond.methodLink RX1 213 yX3_standsIn, Cond.instanceMethod yX3_standsIn, Cond.selects RX3 yX3_standsIn yX3_standsIn, Cond.initialized RX3, Cond.code yX3_standsIn cX3_standsIn 2 (some .boolean), Cond.fieldLink RX3 25 "UmbrellaLand$Umbrella" "state" "I", Cond.fieldLink RX3 28 "UmbrellaLand$Umbrella" "holder" "I", Cond.methodLink RX1 219 yX1_citizensIn, Cond.instanceMethod yX1_citizensIn, Cond.selects RX1 yX1_citizensIn yX1_citizensIn, Cond.code yX1_citizensIn cX1_citizensIn 4 (some .int)]
def wsX4_shelter_r3 : List Cond := [Cond.fieldLink RX1 52 "UmbrellaLand$Republic" "citizenCount" "I", Cond.fieldLink RX1 29 "UmbrellaLand$Republic" "citizens" "[LUmbrellaLand$Citizen;", Cond.fieldLink RX1 139 "UmbrellaLand$Citizen" "stays" "I", Cond.methodLink RX1 142 yX1_firstUmbrellaIn, Cond.instanceMethod yX1_firstUmbrellaIn, Cond.selects RX1 yX1_firstUmbrellaIn yX1_firstUmbrellaIn, Cond.code yX1_firstUmbrellaIn cX1_firstUmbrellaIn 5 (some .int), Cond.fieldLink RX1 183 "UmbrellaLand$Umbrella" "wear" "I"]
def wsX4_shelter : List Cond := .code yX4_shelter cX4_shelter 3 (some .int) :: ((wsX4_shelter_r1 ++ (wsX4_shelter_r2 ++ wsX4_shelter_r3)) ++ wsX40 ++ wsX10 ++ wsX20 ++ wsX30 ++ wsX00 ++ (vx_atS RX4 183 "java/lang/IndexOutOfBoundsException" ["java/lang/RuntimeException", "java/lang/Exception"]).filter goodWord)
def wsX4_checkUmbrella : List Cond := .code yX4_checkUmbrella cX4_checkUmbrella 2 none :: ([.classLink RX4 179 "java/lang/IndexOutOfBoundsException", .initialized "java/lang/IndexOutOfBoundsException", .fieldLink RX4 10 "UmbrellaLand" "now" "LUmbrellaLand$Republic;", .methodLink RX4 184 yX1_isUmbrella, .instanceMethod yX1_isUmbrella, .selects RX1 yX1_isUmbrella yX1_isUmbrella, .initialized RX1, .code yX1_isUmbrella cX1_isUmbrella 2 (some .boolean), .fieldLink RX1 49 "UmbrellaLand$Republic" "umbrellaCount" "I"] ++ wsX40 ++ wsX10 ++ (vx_atS RX4 183 "java/lang/IndexOutOfBoundsException" ["java/lang/RuntimeException", "java/lang/Exception"]).filter goodWord)
def wsX4_umbrella_r1 : List Cond := [Cond.fieldLink RX4 10 "UmbrellaLand" "now" "LUmbrellaLand$Republic;", Cond.fieldLink RX4 107 "UmbrellaLand$Republic" "umbrellas" "[LUmbrellaLand$Umbrella;", Cond.methodLink RX4 104 yX4_checkUmbrella, Cond.instanceMethod yX4_checkUmbrella, Cond.selects RX4 yX4_checkUmbrella yX4_checkUmbrella, Cond.initialized RX4, Cond.code yX4_checkUmbrella cX4_checkUmbrella 2 none, Cond.classLink RX4 179 "java/lang/IndexOutOfBoundsException", Cond.initialized "java/lang/IndexOutOfBoundsException", Cond.methodLink RX4 184 yX1_isUmbrella, Cond.instanceMethod yX1_isUmbrella, Cond.selects RX1 yX1_isUmbrella yX1_isUmbrella, Cond.initialized RX1, Cond.code yX1_isUmbrella cX1_isUmbrella 2 (some .boolean), Cond.fieldLink RX1 49 "UmbrellaLand$Republic" "umbrellaCount" "I", Cond.methodLink RX4 97 yX4_checkWhat, Cond.static yX4_checkWhat, Cond.code yX4_checkWhat cX4_checkWhat 2 none, Cond.methodLink RX4 19 yX4_isWithin, Cond.static yX4_isWithin, Cond.code yX4_isWithin cX4_isWithin 3 (some .boolean), Cond.methodLink RX4 111 yX3_tell, Cond.instanceMethod yX3_tell, Cond.selects RX3 yX3_tell yX3_tell]
def wsX4_umbrella_r2 : List Cond := [Cond.initialized RX3, Cond.code yX3_tell cX3_tell 2 (some .int), Cond.fieldLink RX3 25 "UmbrellaLand$Umbrella" "state" "I", Cond.fieldLink RX3 28 "UmbrellaLand$Umbrella" "holder" "I", Cond.fieldLink RX3 9 "UmbrellaLand$Umbrella" "wear" "I", Cond.fieldLink RX3 31 "UmbrellaLand$Umbrella" "waits" "I", Cond.fieldLink RX3 15 "UmbrellaLand$Umbrella" "taken" "I", Cond.fieldLink RX3 18 "UmbrellaLand$Umbrella" "takenFrom" "I"]
def wsX4_umbrella : List Cond := .code yX4_umbrella cX4_umbrella 3 (some .int) :: ((wsX4_umbrella_r1 ++ wsX4_umbrella_r2) ++ wsX40 ++ wsX10 ++ wsX30 ++ (vx_atS RX4 183 "java/lang/IndexOutOfBoundsException" ["java/lang/RuntimeException", "java/lang/Exception"]).filter goodWord)
def wsX4_checkCitizen : List Cond := .code yX4_checkCitizen cX4_checkCitizen 2 none :: ([.classLink RX4 179 "java/lang/IndexOutOfBoundsException", .initialized "java/lang/IndexOutOfBoundsException", .fieldLink RX4 10 "UmbrellaLand" "now" "LUmbrellaLand$Republic;", .methodLink RX4 189 yX1_isCitizen, .instanceMethod yX1_isCitizen, .selects RX1 yX1_isCitizen yX1_isCitizen, .initialized RX1, .code yX1_isCitizen cX1_isCitizen 2 (some .boolean), .fieldLink RX1 52 "UmbrellaLand$Republic" "citizenCount" "I"] ++ wsX40 ++ wsX10 ++ (vx_atS RX4 183 "java/lang/IndexOutOfBoundsException" ["java/lang/RuntimeException", "java/lang/Exception"]).filter goodWord)
def wsX4_citizen_r1 : List Cond := [Cond.fieldLink RX4 10 "UmbrellaLand" "now" "LUmbrellaLand$Republic;", Cond.fieldLink RX4 120 "UmbrellaLand$Republic" "citizens" "[LUmbrellaLand$Citizen;", Cond.methodLink RX4 117 yX4_checkCitizen, Cond.instanceMethod yX4_checkCitizen, Cond.selects RX4 yX4_checkCitizen yX4_checkCitizen, Cond.initialized RX4, Cond.code yX4_checkCitizen cX4_checkCitizen 2 none, Cond.classLink RX4 179 "java/lang/IndexOutOfBoundsException", Cond.initialized "java/lang/IndexOutOfBoundsException", Cond.methodLink RX4 189 yX1_isCitizen, Cond.instanceMethod yX1_isCitizen, Cond.selects RX1 yX1_isCitizen yX1_isCitizen, Cond.initialized RX1, Cond.code yX1_isCitizen cX1_isCitizen 2 (some .boolean), Cond.fieldLink RX1 52 "UmbrellaLand$Republic" "citizenCount" "I", Cond.methodLink RX4 97 yX4_checkWhat, Cond.static yX4_checkWhat, Cond.code yX4_checkWhat cX4_checkWhat 2 none, Cond.methodLink RX4 19 yX4_isWithin, Cond.static yX4_isWithin, Cond.code yX4_isWithin cX4_isWithin 3 (some .boolean), Cond.methodLink RX4 124 yX0_tell, Cond.instanceMethod yX0_tell, Cond.selects RX0 yX0_tell yX0_tell]
def wsX4_citizen_r2 : List Cond := [Cond.initialized RX0, Cond.code yX0_tell cX0_tell 2 (some .int), Cond.fieldLink RX0 9 "UmbrellaLand$Citizen" "home" "I", Cond.fieldLink RX0 15 "UmbrellaLand$Citizen" "work" "I", Cond.fieldLink RX0 21 "UmbrellaLand$Citizen" "stays" "I", Cond.fieldLink RX0 42 "UmbrellaLand$Citizen" "hoursToWalk" "I", Cond.fieldLink RX0 27 "UmbrellaLand$Citizen" "inHand" "I", Cond.fieldLink RX0 30 "UmbrellaLand$Citizen" "trust" "I", Cond.fieldLink RX0 45 "UmbrellaLand$Citizen" "wet" "I", Cond.fieldLink RX0 48 "UmbrellaLand$Citizen" "taken" "I", Cond.fieldLink RX0 51 "UmbrellaLand$Citizen" "forgotten" "I", Cond.fieldLink RX0 54 "UmbrellaLand$Citizen" "refused" "I"]
def wsX4_citizen : List Cond := .code yX4_citizen cX4_citizen 3 (some .int) :: ((wsX4_citizen_r1 ++ wsX4_citizen_r2) ++ wsX40 ++ wsX10 ++ wsX00 ++ (vx_atS RX4 183 "java/lang/IndexOutOfBoundsException" ["java/lang/RuntimeException", "java/lang/Exception"]).filter goodWord)
def wsX4_count_r1 : List Cond := [Cond.fieldLink RX4 10 "UmbrellaLand" "now" "LUmbrellaLand$Republic;", Cond.methodLink RX4 97 yX4_checkWhat, Cond.static yX4_checkWhat, Cond.initialized RX4, Cond.code yX4_checkWhat cX4_checkWhat 2 none, Cond.classLink RX4 179 "java/lang/IndexOutOfBoundsException", Cond.initialized "java/lang/IndexOutOfBoundsException", Cond.methodLink RX4 19 yX4_isWithin, Cond.static yX4_isWithin, Cond.code yX4_isWithin cX4_isWithin 3 (some .boolean), Cond.methodLink RX4 127 yX1_tellAll, Cond.instanceMethod yX1_tellAll, Cond.selects RX1 yX1_tellAll yX1_tellAll, Cond.initialized RX1, Cond.code yX1_tellAll cX1_tellAll 2 (some .int), Cond.fieldLink RX1 42 "UmbrellaLand$Republic" "hour" "I", Cond.fieldLink RX1 46 "UmbrellaLand$Republic" "shelterCount" "I", Cond.fieldLink RX1 49 "UmbrellaLand$Republic" "umbrellaCount" "I", Cond.fieldLink RX1 52 "UmbrellaLand$Republic" "citizenCount" "I", Cond.fieldLink RX1 55 "UmbrellaLand$Republic" "carried" "I", Cond.methodLink RX1 226 yX1_umbrellasThatAre, Cond.instanceMethod yX1_umbrellasThatAre, Cond.selects RX1 yX1_umbrellasThatAre yX1_umbrellasThatAre, Cond.code yX1_umbrellasThatAre cX1_umbrellasThatAre 4 (some .int)]
def wsX4_count_r2 : List Cond := [Cond.fieldLink RX1 23 "UmbrellaLand$Republic" "umbrellas" "[LUmbrellaLand$Umbrella;", Cond.fieldLink RX1 216 "UmbrellaLand$Umbrella" "state" "I", Cond.methodLink RX1 219 yX1_citizensIn, Cond.instanceMethod yX1_citizensIn, Cond.selects RX1 yX1_citizensIn yX1_citizensIn, Cond.code yX1_citizensIn cX1_citizensIn 4 (some .int), Cond.fieldLink RX1 29 "UmbrellaLand$Republic" "citizens" "[LUmbrellaLand$Citizen;", Cond.fieldLink RX1 139 "UmbrellaLand$Citizen" "stays" "I", Cond.methodLink RX1 229 yX1_wetOfAll, Cond.instanceMethod yX1_wetOfAll, Cond.selects RX1 yX1_wetOfAll yX1_wetOfAll, Cond.code yX1_wetOfAll cX1_wetOfAll 3 (some .int), Cond.fieldLink RX1 180 "UmbrellaLand$Citizen" "wet" "I"]
def wsX4_count : List Cond := .code yX4_count cX4_count 2 (some .int) :: ((wsX4_count_r1 ++ wsX4_count_r2) ++ wsX40 ++ wsX10 ++ wsX30 ++ wsX00 ++ (vx_atS RX4 183 "java/lang/IndexOutOfBoundsException" ["java/lang/RuntimeException", "java/lang/Exception"]).filter goodWord)
def wsX4_checkHours : List Cond := .code yX4_checkHours cX4_checkHours 2 none :: ([.classLink RX4 23 "java/lang/IllegalArgumentException", .initialized "java/lang/IllegalArgumentException", .methodLink RX4 19 yX4_isWithin, .static yX4_isWithin, .initialized RX4, .code yX4_isWithin cX4_isWithin 3 (some .boolean)] ++ (vx_atS RX4 27 "java/lang/IllegalArgumentException" ["java/lang/RuntimeException", "java/lang/Exception"]).filter goodWord)
def wsX4_pass_r1 : List Cond := [Cond.fieldLink RX4 10 "UmbrellaLand" "now" "LUmbrellaLand$Republic;", Cond.methodLink RX4 130 yX4_checkHours, Cond.static yX4_checkHours, Cond.initialized RX4, Cond.code yX4_checkHours cX4_checkHours 2 none, Cond.classLink RX4 23 "java/lang/IllegalArgumentException", Cond.initialized "java/lang/IllegalArgumentException", Cond.methodLink RX4 19 yX4_isWithin, Cond.static yX4_isWithin, Cond.code yX4_isWithin cX4_isWithin 3 (some .boolean), Cond.methodLink RX4 133 yX1_letGoBy, Cond.instanceMethod yX1_letGoBy, Cond.selects RX1 yX1_letGoBy yX1_letGoBy, Cond.initialized RX1, Cond.code yX1_letGoBy cX1_letGoBy 5 (some .int), Cond.fieldLink RX1 42 "UmbrellaLand$Republic" "hour" "I", Cond.fieldLink RX1 9 "UmbrellaLand$Republic" "rain" "[I", Cond.methodLink RX1 109 yJ9_floorMod_7cf53, Cond.static yJ9_floorMod_7cf53, Cond.initialized RJ9, Cond.code yJ9_floorMod_7cf53 cJ9_floorMod_7cf53 3 (some .int), Cond.methodLink RX1 112 yX1_letUmbrellasWait, Cond.instanceMethod yX1_letUmbrellasWait, Cond.selects RX1 yX1_letUmbrellasWait yX1_letUmbrellasWait]
def wsX4_pass_r2 : List Cond := [Cond.code yX1_letUmbrellasWait cX1_letUmbrellasWait 2 none, Cond.fieldLink RX1 49 "UmbrellaLand$Republic" "umbrellaCount" "I", Cond.fieldLink RX1 23 "UmbrellaLand$Republic" "umbrellas" "[LUmbrellaLand$Umbrella;", Cond.methodLink RX1 127 yX3_waitAnHour, Cond.instanceMethod yX3_waitAnHour, Cond.selects RX3 yX3_waitAnHour yX3_waitAnHour, Cond.initialized RX3, Cond.code yX3_waitAnHour cX3_waitAnHour 1 none, Cond.fieldLink RX3 31 "UmbrellaLand$Umbrella" "waits" "I", Cond.fieldLink RX3 25 "UmbrellaLand$Umbrella" "state" "I", Cond.fieldLink RX3 9 "UmbrellaLand$Umbrella" "wear" "I", Cond.fieldLink RX3 18 "UmbrellaLand$Umbrella" "takenFrom" "I", Cond.methodLink RX3 21 yX3_standIn, Cond.instanceMethod yX3_standIn, Cond.selects RX3 yX3_standIn yX3_standIn, Cond.code yX3_standIn cX3_standIn 2 none, Cond.fieldLink RX3 28 "UmbrellaLand$Umbrella" "holder" "I", Cond.methodLink RX1 115 yX1_letCitizensLeave, Cond.instanceMethod yX1_letCitizensLeave, Cond.selects RX1 yX1_letCitizensLeave yX1_letCitizensLeave, Cond.code yX1_letCitizensLeave cX1_letCitizensLeave 5 (some .int), Cond.fieldLink RX1 52 "UmbrellaLand$Republic" "citizenCount" "I", Cond.fieldLink RX1 29 "UmbrellaLand$Republic" "citizens" "[LUmbrellaLand$Citizen;", Cond.methodLink RX1 130 yX0_leavesAt]
def wsX4_pass_r3 : List Cond := [Cond.instanceMethod yX0_leavesAt, Cond.selects RX0 yX0_leavesAt yX0_leavesAt, Cond.initialized RX0, Cond.code yX0_leavesAt cX0_leavesAt 2 (some .boolean), Cond.fieldLink RX0 21 "UmbrellaLand$Citizen" "stays" "I", Cond.fieldLink RX0 9 "UmbrellaLand$Citizen" "home" "I", Cond.fieldLink RX0 33 "UmbrellaLand$Citizen" "leaves" "I", Cond.fieldLink RX0 15 "UmbrellaLand$Citizen" "work" "I", Cond.fieldLink RX0 36 "UmbrellaLand$Citizen" "returns" "I", Cond.methodLink RX1 133 yX1_takeUmbrella, Cond.instanceMethod yX1_takeUmbrella, Cond.selects RX1 yX1_takeUmbrella yX1_takeUmbrella, Cond.code yX1_takeUmbrella cX1_takeUmbrella 5 (some .boolean), Cond.fieldLink RX1 139 "UmbrellaLand$Citizen" "stays" "I", Cond.fieldLink RX1 17 "UmbrellaLand$Republic" "shelters" "[LUmbrellaLand$Shelter;", Cond.fieldLink RX1 145 "UmbrellaLand$Citizen" "trust" "I", Cond.fieldLink RX1 148 "UmbrellaLand$Shelter" "demand" "I", Cond.fieldLink RX1 154 "UmbrellaLand$Citizen" "refused" "I", Cond.fieldLink RX1 163 "UmbrellaLand$Citizen" "inHand" "I", Cond.fieldLink RX1 166 "UmbrellaLand$Citizen" "taken" "I", Cond.fieldLink RX1 169 "UmbrellaLand$Shelter" "taken" "I", Cond.methodLink RX1 96 yX1_isShelter, Cond.instanceMethod yX1_isShelter, Cond.selects RX1 yX1_isShelter yX1_isShelter]
def wsX4_pass_r4 : List Cond := [Cond.code yX1_isShelter cX1_isShelter 2 (some .boolean), Cond.fieldLink RX1 46 "UmbrellaLand$Republic" "shelterCount" "I", Cond.methodLink RX1 142 yX1_firstUmbrellaIn, Cond.instanceMethod yX1_firstUmbrellaIn, Cond.selects RX1 yX1_firstUmbrellaIn yX1_firstUmbrellaIn, Cond.code yX1_firstUmbrellaIn cX1_firstUmbrellaIn 5 (some .int), Cond.fieldLink RX1 183 "UmbrellaLand$Umbrella" "wear" "I", Cond.methodLink RX1 213 yX3_standsIn, Cond.instanceMethod yX3_standsIn, Cond.selects RX3 yX3_standsIn yX3_standsIn, Cond.code yX3_standsIn cX3_standsIn 2 (some .boolean), Cond.methodLink RX1 151 yX1_isUmbrella, Cond.instanceMethod yX1_isUmbrella, Cond.selects RX1 yX1_isUmbrella yX1_isUmbrella, Cond.code yX1_isUmbrella cX1_isUmbrella 2 (some .boolean), Cond.methodLink RX1 157 yX2_noteRefusal, Cond.instanceMethod yX2_noteRefusal, Cond.selects RX2 yX2_noteRefusal yX2_noteRefusal, Cond.initialized RX2, Cond.code yX2_noteRefusal cX2_noteRefusal 1 none, Cond.fieldLink RX2 24 "UmbrellaLand$Shelter" "refused" "I", Cond.fieldLink RX2 30 "UmbrellaLand$Shelter" "refusedToday" "I", Cond.methodLink RX1 160 yX3_goWith, Cond.instanceMethod yX3_goWith]
def wsX4_pass_r5 : List Cond := [Cond.selects RX3 yX3_goWith yX3_goWith, Cond.code yX3_goWith cX3_goWith 2 none, Cond.fieldLink RX3 15 "UmbrellaLand$Umbrella" "taken" "I", Cond.methodLink RX1 136 yX0_setOut, Cond.instanceMethod yX0_setOut, Cond.selects RX0 yX0_setOut yX0_setOut, Cond.code yX0_setOut cX0_setOut 1 none, Cond.fieldLink RX0 24 "UmbrellaLand$Citizen" "goal" "I", Cond.fieldLink RX0 18 "UmbrellaLand$Citizen" "hoursOfWalk" "I", Cond.fieldLink RX0 42 "UmbrellaLand$Citizen" "hoursToWalk" "I", Cond.methodLink RX1 118 yX1_letCitizensWalk, Cond.instanceMethod yX1_letCitizensWalk, Cond.selects RX1 yX1_letCitizensWalk yX1_letCitizensWalk, Cond.code yX1_letCitizensWalk cX1_letCitizensWalk 4 none, Cond.fieldLink RX1 170 "UmbrellaLand$Citizen" "hoursToWalk" "I", Cond.methodLink RX1 173 yX1_meetRain, Cond.instanceMethod yX1_meetRain, Cond.selects RX1 yX1_meetRain yX1_meetRain, Cond.code yX1_meetRain cX1_meetRain 4 none, Cond.fieldLink RX1 180 "UmbrellaLand$Citizen" "wet" "I", Cond.methodLink RX1 186 yX3_stayAway, Cond.instanceMethod yX3_stayAway, Cond.selects RX3 yX3_stayAway yX3_stayAway, Cond.code yX3_stayAway cX3_stayAway 3 none]
def wsX4_pass_r6 : List Cond := [Cond.methodLink RX1 177 yX1_arrive, Cond.instanceMethod yX1_arrive, Cond.selects RX1 yX1_arrive yX1_arrive, Cond.code yX1_arrive cX1_arrive 3 none, Cond.fieldLink RX1 189 "UmbrellaLand$Citizen" "goal" "I", Cond.fieldLink RX1 205 "UmbrellaLand$Umbrella" "takenFrom" "I", Cond.methodLink RX1 192 yX0_forgetsThisOne, Cond.instanceMethod yX0_forgetsThisOne, Cond.selects RX0 yX0_forgetsThisOne yX0_forgetsThisOne, Cond.code yX0_forgetsThisOne cX0_forgetsThisOne 1 (some .boolean), Cond.fieldLink RX0 39 "UmbrellaLand$Citizen" "forgets" "I", Cond.fieldLink RX0 48 "UmbrellaLand$Citizen" "taken" "I", Cond.methodLink RX1 196 yX3_standIn, Cond.methodLink RX1 199 yX0_noteBroughtBack, Cond.instanceMethod yX0_noteBroughtBack, Cond.selects RX0 yX0_noteBroughtBack yX0_noteBroughtBack, Cond.code yX0_noteBroughtBack cX0_noteBroughtBack 1 none, Cond.fieldLink RX0 30 "UmbrellaLand$Citizen" "trust" "I", Cond.methodLink RX0 63 Lib.Math.min.name, Cond.static Lib.Math.min.name, Cond.initialized "java/lang/Math", Cond.code Lib.Math.min.name Lib.Math.min.code 2 (some .int), Cond.methodLink RX1 202 yX0_noteForgotten, Cond.instanceMethod yX0_noteForgotten]
def wsX4_pass_r7 : List Cond := [Cond.selects RX0 yX0_noteForgotten yX0_noteForgotten, Cond.code yX0_noteForgotten cX0_noteForgotten 1 none, Cond.fieldLink RX0 51 "UmbrellaLand$Citizen" "forgotten" "I", Cond.methodLink RX0 57 Lib.Math.max.name, Cond.static Lib.Math.max.name, Cond.code Lib.Math.max.name Lib.Math.max.code 2 (some .int), Cond.methodLink RX1 208 yX2_noteForgotten, Cond.instanceMethod yX2_noteForgotten, Cond.selects RX2 yX2_noteForgotten yX2_noteForgotten, Cond.code yX2_noteForgotten cX2_noteForgotten 1 none, Cond.fieldLink RX2 21 "UmbrellaLand$Shelter" "forgotten" "I", Cond.fieldLink RX2 27 "UmbrellaLand$Shelter" "forgottenToday" "I", Cond.methodLink RX1 121 yX1_driveCart, Cond.instanceMethod yX1_driveCart, Cond.selects RX1 yX1_driveCart yX1_driveCart, Cond.code yX1_driveCart cX1_driveCart 4 none, Cond.fieldLink RX1 55 "UmbrellaLand$Republic" "carried" "I", Cond.methodLink RX1 209 yX1_umbrellasIn, Cond.instanceMethod yX1_umbrellasIn, Cond.selects RX1 yX1_umbrellasIn yX1_umbrellasIn, Cond.code yX1_umbrellasIn cX1_umbrellasIn 4 (some .int), Cond.methodLink RX1 124 yX1_endDay, Cond.instanceMethod yX1_endDay, Cond.selects RX1 yX1_endDay yX1_endDay]
def wsX4_pass_r8 : List Cond := [Cond.code yX1_endDay cX1_endDay 2 none, Cond.methodLink RX1 212 yX2_endDay, Cond.instanceMethod yX2_endDay, Cond.selects RX2 yX2_endDay yX2_endDay, Cond.code yX2_endDay cX2_endDay 1 none, Cond.fieldLink RX2 15 "UmbrellaLand$Shelter" "demand" "I", Cond.methodLink RX2 33 Lib.Math.min.name, Cond.methodLink RX2 39 Lib.Math.max.name]
def wsX4_pass : List Cond := .code yX4_pass cX4_pass 2 (some .int) :: ((wsX4_pass_r1 ++ (wsX4_pass_r2 ++ (wsX4_pass_r3 ++ (wsX4_pass_r4 ++ (wsX4_pass_r5 ++ (wsX4_pass_r6 ++ (wsX4_pass_r7 ++ wsX4_pass_r8))))))) ++ wsX40 ++ wsX10 ++ wsX30 ++ wsX00 ++ wsX20 ++ (vx_atS RX4 27 "java/lang/IllegalArgumentException" ["java/lang/RuntimeException", "java/lang/Exception"]).filter goodWord)
def wsX4_foresee_r1 : List Cond := [Cond.fieldLink RX4 16 "UmbrellaLand" "ahead" "LUmbrellaLand$Republic;", Cond.fieldLink RX4 10 "UmbrellaLand" "now" "LUmbrellaLand$Republic;", Cond.methodLink RX4 130 yX4_checkHours, Cond.static yX4_checkHours, Cond.initialized RX4, Cond.code yX4_checkHours cX4_checkHours 2 none, Cond.classLink RX4 23 "java/lang/IllegalArgumentException", Cond.initialized "java/lang/IllegalArgumentException", Cond.methodLink RX4 19 yX4_isWithin, Cond.static yX4_isWithin, Cond.code yX4_isWithin cX4_isWithin 3 (some .boolean), Cond.methodLink RX4 97 yX4_checkWhat, Cond.static yX4_checkWhat, Cond.code yX4_checkWhat cX4_checkWhat 2 none, Cond.classLink RX4 179 "java/lang/IndexOutOfBoundsException", Cond.initialized "java/lang/IndexOutOfBoundsException", Cond.methodLink RX4 136 yX1_becomeLike, Cond.instanceMethod yX1_becomeLike, Cond.selects RX1 yX1_becomeLike yX1_becomeLike, Cond.initialized RX1, Cond.code yX1_becomeLike cX1_becomeLike 3 none, Cond.fieldLink RX1 9 "UmbrellaLand$Republic" "rain" "[I", Cond.methodLink RX1 36 arraycopyName, Cond.native arraycopyName]
def wsX4_foresee_r2 : List Cond := [Cond.static arraycopyName, Cond.initialized "java/lang/System", Cond.fieldLink RX1 42 "UmbrellaLand$Republic" "hour" "I", Cond.fieldLink RX1 46 "UmbrellaLand$Republic" "shelterCount" "I", Cond.fieldLink RX1 49 "UmbrellaLand$Republic" "umbrellaCount" "I", Cond.fieldLink RX1 52 "UmbrellaLand$Republic" "citizenCount" "I", Cond.fieldLink RX1 55 "UmbrellaLand$Republic" "carried" "I", Cond.fieldLink RX1 17 "UmbrellaLand$Republic" "shelters" "[LUmbrellaLand$Shelter;", Cond.fieldLink RX1 23 "UmbrellaLand$Republic" "umbrellas" "[LUmbrellaLand$Umbrella;", Cond.fieldLink RX1 29 "UmbrellaLand$Republic" "citizens" "[LUmbrellaLand$Citizen;", Cond.methodLink RX1 58 yX2_becomeLike, Cond.instanceMethod yX2_becomeLike, Cond.selects RX2 yX2_becomeLike yX2_becomeLike, Cond.initialized RX2, Cond.code yX2_becomeLike cX2_becomeLike 2 none, Cond.fieldLink RX2 9 "UmbrellaLand$Shelter" "place" "I", Cond.fieldLink RX2 15 "UmbrellaLand$Shelter" "demand" "I", Cond.fieldLink RX2 18 "UmbrellaLand$Shelter" "taken" "I", Cond.fieldLink RX2 21 "UmbrellaLand$Shelter" "forgotten" "I", Cond.fieldLink RX2 24 "UmbrellaLand$Shelter" "refused" "I", Cond.fieldLink RX2 27 "UmbrellaLand$Shelter" "forgottenToday" "I", Cond.fieldLink RX2 30 "UmbrellaLand$Shelter" "refusedToday" "I", Cond.methodLink RX1 62 yX3_becomeLike, Cond.instanceMethod yX3_becomeLike]
def wsX4_foresee_r3 : List Cond := [Cond.selects RX3 yX3_becomeLike yX3_becomeLike, Cond.initialized RX3, Cond.code yX3_becomeLike cX3_becomeLike 2 none, Cond.fieldLink RX3 25 "UmbrellaLand$Umbrella" "state" "I", Cond.fieldLink RX3 28 "UmbrellaLand$Umbrella" "holder" "I", Cond.fieldLink RX3 9 "UmbrellaLand$Umbrella" "wear" "I", Cond.fieldLink RX3 31 "UmbrellaLand$Umbrella" "waits" "I", Cond.fieldLink RX3 15 "UmbrellaLand$Umbrella" "taken" "I", Cond.fieldLink RX3 18 "UmbrellaLand$Umbrella" "takenFrom" "I", Cond.methodLink RX1 65 yX0_becomeLike, Cond.instanceMethod yX0_becomeLike, Cond.selects RX0 yX0_becomeLike yX0_becomeLike, Cond.initialized RX0, Cond.code yX0_becomeLike cX0_becomeLike 2 none, Cond.fieldLink RX0 9 "UmbrellaLand$Citizen" "home" "I", Cond.fieldLink RX0 15 "UmbrellaLand$Citizen" "work" "I", Cond.fieldLink RX0 33 "UmbrellaLand$Citizen" "leaves" "I", Cond.fieldLink RX0 36 "UmbrellaLand$Citizen" "returns" "I", Cond.fieldLink RX0 39 "UmbrellaLand$Citizen" "forgets" "I", Cond.fieldLink RX0 18 "UmbrellaLand$Citizen" "hoursOfWalk" "I", Cond.fieldLink RX0 21 "UmbrellaLand$Citizen" "stays" "I", Cond.fieldLink RX0 24 "UmbrellaLand$Citizen" "goal" "I", Cond.fieldLink RX0 42 "UmbrellaLand$Citizen" "hoursToWalk" "I", Cond.fieldLink RX0 27 "UmbrellaLand$Citizen" "inHand" "I"]
def wsX4_foresee_r4 : List Cond := [Cond.fieldLink RX0 30 "UmbrellaLand$Citizen" "trust" "I", Cond.fieldLink RX0 45 "UmbrellaLand$Citizen" "wet" "I", Cond.fieldLink RX0 48 "UmbrellaLand$Citizen" "taken" "I", Cond.fieldLink RX0 51 "UmbrellaLand$Citizen" "forgotten" "I", Cond.fieldLink RX0 54 "UmbrellaLand$Citizen" "refused" "I", Cond.methodLink RX4 133 yX1_letGoBy, Cond.instanceMethod yX1_letGoBy, Cond.selects RX1 yX1_letGoBy yX1_letGoBy, Cond.code yX1_letGoBy cX1_letGoBy 5 (some .int), Cond.methodLink RX1 109 yJ9_floorMod_7cf53, Cond.static yJ9_floorMod_7cf53, Cond.initialized RJ9, Cond.code yJ9_floorMod_7cf53 cJ9_floorMod_7cf53 3 (some .int), Cond.methodLink RX1 112 yX1_letUmbrellasWait, Cond.instanceMethod yX1_letUmbrellasWait, Cond.selects RX1 yX1_letUmbrellasWait yX1_letUmbrellasWait, Cond.code yX1_letUmbrellasWait cX1_letUmbrellasWait 2 none, Cond.methodLink RX1 127 yX3_waitAnHour, Cond.instanceMethod yX3_waitAnHour, Cond.selects RX3 yX3_waitAnHour yX3_waitAnHour, Cond.code yX3_waitAnHour cX3_waitAnHour 1 none, Cond.methodLink RX3 21 yX3_standIn, Cond.instanceMethod yX3_standIn, Cond.selects RX3 yX3_standIn yX3_standIn]
def wsX4_foresee_r5 : List Cond := [Cond.code yX3_standIn cX3_standIn 2 none, Cond.methodLink RX1 115 yX1_letCitizensLeave, Cond.instanceMethod yX1_letCitizensLeave, Cond.selects RX1 yX1_letCitizensLeave yX1_letCitizensLeave, Cond.code yX1_letCitizensLeave cX1_letCitizensLeave 5 (some .int), Cond.methodLink RX1 130 yX0_leavesAt, Cond.instanceMethod yX0_leavesAt, Cond.selects RX0 yX0_leavesAt yX0_leavesAt, Cond.code yX0_leavesAt cX0_leavesAt 2 (some .boolean), Cond.methodLink RX1 133 yX1_takeUmbrella, Cond.instanceMethod yX1_takeUmbrella, Cond.selects RX1 yX1_takeUmbrella yX1_takeUmbrella, Cond.code yX1_takeUmbrella cX1_takeUmbrella 5 (some .boolean), Cond.fieldLink RX1 139 "UmbrellaLand$Citizen" "stays" "I", Cond.fieldLink RX1 145 "UmbrellaLand$Citizen" "trust" "I", Cond.fieldLink RX1 148 "UmbrellaLand$Shelter" "demand" "I", Cond.fieldLink RX1 154 "UmbrellaLand$Citizen" "refused" "I", Cond.fieldLink RX1 163 "UmbrellaLand$Citizen" "inHand" "I", Cond.fieldLink RX1 166 "UmbrellaLand$Citizen" "taken" "I", Cond.fieldLink RX1 169 "UmbrellaLand$Shelter" "taken" "I", Cond.methodLink RX1 96 yX1_isShelter, Cond.instanceMethod yX1_isShelter, Cond.selects RX1 yX1_isShelter yX1_isShelter, Cond.code yX1_isShelter cX1_isShelter 2 (some .boolean)]
def wsX4_foresee_r6 : List Cond := [Cond.methodLink RX1 142 yX1_firstUmbrellaIn, Cond.instanceMethod yX1_firstUmbrellaIn, Cond.selects RX1 yX1_firstUmbrellaIn yX1_firstUmbrellaIn, Cond.code yX1_firstUmbrellaIn cX1_firstUmbrellaIn 5 (some .int), Cond.fieldLink RX1 183 "UmbrellaLand$Umbrella" "wear" "I", Cond.methodLink RX1 213 yX3_standsIn, Cond.instanceMethod yX3_standsIn, Cond.selects RX3 yX3_standsIn yX3_standsIn, Cond.code yX3_standsIn cX3_standsIn 2 (some .boolean), Cond.methodLink RX1 151 yX1_isUmbrella, Cond.instanceMethod yX1_isUmbrella, Cond.selects RX1 yX1_isUmbrella yX1_isUmbrella, Cond.code yX1_isUmbrella cX1_isUmbrella 2 (some .boolean), Cond.methodLink RX1 157 yX2_noteRefusal, Cond.instanceMethod yX2_noteRefusal, Cond.selects RX2 yX2_noteRefusal yX2_noteRefusal, Cond.code yX2_noteRefusal cX2_noteRefusal 1 none, Cond.methodLink RX1 160 yX3_goWith, Cond.instanceMethod yX3_goWith, Cond.selects RX3 yX3_goWith yX3_goWith, Cond.code yX3_goWith cX3_goWith 2 none, Cond.methodLink RX1 136 yX0_setOut, Cond.instanceMethod yX0_setOut, Cond.selects RX0 yX0_setOut yX0_setOut]
def wsX4_foresee_r7 : List Cond := [Cond.code yX0_setOut cX0_setOut 1 none, Cond.methodLink RX1 118 yX1_letCitizensWalk, Cond.instanceMethod yX1_letCitizensWalk, Cond.selects RX1 yX1_letCitizensWalk yX1_letCitizensWalk, Cond.code yX1_letCitizensWalk cX1_letCitizensWalk 4 none, Cond.fieldLink RX1 170 "UmbrellaLand$Citizen" "hoursToWalk" "I", Cond.methodLink RX1 173 yX1_meetRain, Cond.instanceMethod yX1_meetRain, Cond.selects RX1 yX1_meetRain yX1_meetRain, Cond.code yX1_meetRain cX1_meetRain 4 none, Cond.fieldLink RX1 180 "UmbrellaLand$Citizen" "wet" "I", Cond.methodLink RX1 186 yX3_stayAway, Cond.instanceMethod yX3_stayAway, Cond.selects RX3 yX3_stayAway yX3_stayAway, Cond.code yX3_stayAway cX3_stayAway 3 none, Cond.methodLink RX1 177 yX1_arrive, Cond.instanceMethod yX1_arrive, Cond.selects RX1 yX1_arrive yX1_arrive, Cond.code yX1_arrive cX1_arrive 3 none, Cond.fieldLink RX1 189 "UmbrellaLand$Citizen" "goal" "I", Cond.fieldLink RX1 205 "UmbrellaLand$Umbrella" "takenFrom" "I", Cond.methodLink RX1 192 yX0_forgetsThisOne, Cond.instanceMethod yX0_forgetsThisOne, Cond.selects RX0 yX0_forgetsThisOne yX0_forgetsThisOne]
def wsX4_foresee_r8 : List Cond := [Cond.code yX0_forgetsThisOne cX0_forgetsThisOne 1 (some .boolean), Cond.methodLink RX1 196 yX3_standIn, Cond.methodLink RX1 199 yX0_noteBroughtBack, Cond.instanceMethod yX0_noteBroughtBack, Cond.selects RX0 yX0_noteBroughtBack yX0_noteBroughtBack, Cond.code yX0_noteBroughtBack cX0_noteBroughtBack 1 none, Cond.methodLink RX0 63 Lib.Math.min.name, Cond.static Lib.Math.min.name, Cond.initialized "java/lang/Math", Cond.code Lib.Math.min.name Lib.Math.min.code 2 (some .int), Cond.methodLink RX1 202 yX0_noteForgotten, Cond.instanceMethod yX0_noteForgotten, Cond.selects RX0 yX0_noteForgotten yX0_noteForgotten, Cond.code yX0_noteForgotten cX0_noteForgotten 1 none, Cond.methodLink RX0 57 Lib.Math.max.name, Cond.static Lib.Math.max.name, Cond.code Lib.Math.max.name Lib.Math.max.code 2 (some .int), Cond.methodLink RX1 208 yX2_noteForgotten, Cond.instanceMethod yX2_noteForgotten, Cond.selects RX2 yX2_noteForgotten yX2_noteForgotten, Cond.code yX2_noteForgotten cX2_noteForgotten 1 none, Cond.methodLink RX1 121 yX1_driveCart, Cond.instanceMethod yX1_driveCart, Cond.selects RX1 yX1_driveCart yX1_driveCart]
def wsX4_foresee_r9 : List Cond := [Cond.code yX1_driveCart cX1_driveCart 4 none, Cond.methodLink RX1 209 yX1_umbrellasIn, Cond.instanceMethod yX1_umbrellasIn, Cond.selects RX1 yX1_umbrellasIn yX1_umbrellasIn, Cond.code yX1_umbrellasIn cX1_umbrellasIn 4 (some .int), Cond.methodLink RX1 124 yX1_endDay, Cond.instanceMethod yX1_endDay, Cond.selects RX1 yX1_endDay yX1_endDay, Cond.code yX1_endDay cX1_endDay 2 none, Cond.methodLink RX1 212 yX2_endDay, Cond.instanceMethod yX2_endDay, Cond.selects RX2 yX2_endDay yX2_endDay, Cond.code yX2_endDay cX2_endDay 1 none, Cond.methodLink RX2 33 Lib.Math.min.name, Cond.methodLink RX2 39 Lib.Math.max.name, Cond.methodLink RX4 140 yX1_wetOfAll, Cond.instanceMethod yX1_wetOfAll, Cond.selects RX1 yX1_wetOfAll yX1_wetOfAll, Cond.code yX1_wetOfAll cX1_wetOfAll 3 (some .int), Cond.methodLink RX4 144 yX1_umbrellasThatAre, Cond.instanceMethod yX1_umbrellasThatAre, Cond.selects RX1 yX1_umbrellasThatAre yX1_umbrellasThatAre, Cond.code yX1_umbrellasThatAre cX1_umbrellasThatAre 4 (some .int), Cond.fieldLink RX1 216 "UmbrellaLand$Umbrella" "state" "I"]
def wsX4_foresee_r10 : List Cond := [Cond.methodLink RX4 147 yX1_trustOfAll, Cond.instanceMethod yX1_trustOfAll, Cond.selects RX1 yX1_trustOfAll yX1_trustOfAll, Cond.code yX1_trustOfAll cX1_trustOfAll 3 (some .int)]
def wsX4_foresee : List Cond := .code yX4_foresee cX4_foresee 3 (some .int) :: ((wsX4_foresee_r1 ++ (wsX4_foresee_r2 ++ (wsX4_foresee_r3 ++ (wsX4_foresee_r4 ++ (wsX4_foresee_r5 ++ (wsX4_foresee_r6 ++ (wsX4_foresee_r7 ++ (wsX4_foresee_r8 ++ (wsX4_foresee_r9 ++ wsX4_foresee_r10))))))))) ++ wsX40 ++ wsX10 ++ wsX20 ++ wsX30 ++ wsX00 ++ (vx_atS RX4 27 "java/lang/IllegalArgumentException" ["java/lang/RuntimeException", "java/lang/Exception"]).filter goodWord ++ (vx_atS RX4 183 "java/lang/IndexOutOfBoundsException" ["java/lang/RuntimeException", "java/lang/Exception"]).filter goodWord)
def wsX4_wetAfter_r1 : List Cond := [Cond.fieldLink RX4 16 "UmbrellaLand" "ahead" "LUmbrellaLand$Republic;", Cond.fieldLink RX4 10 "UmbrellaLand" "now" "LUmbrellaLand$Republic;", Cond.methodLink RX4 136 yX1_becomeLike, Cond.instanceMethod yX1_becomeLike, Cond.selects RX1 yX1_becomeLike yX1_becomeLike, Cond.initialized RX1, Cond.code yX1_becomeLike cX1_becomeLike 3 none, Cond.fieldLink RX1 9 "UmbrellaLand$Republic" "rain" "[I", Cond.methodLink RX1 36 arraycopyName, Cond.native arraycopyName, Cond.static arraycopyName, Cond.initialized "java/lang/System", Cond.fieldLink RX1 42 "UmbrellaLand$Republic" "hour" "I", Cond.fieldLink RX1 46 "UmbrellaLand$Republic" "shelterCount" "I", Cond.fieldLink RX1 49 "UmbrellaLand$Republic" "umbrellaCount" "I", Cond.fieldLink RX1 52 "UmbrellaLand$Republic" "citizenCount" "I", Cond.fieldLink RX1 55 "UmbrellaLand$Republic" "carried" "I", Cond.fieldLink RX1 17 "UmbrellaLand$Republic" "shelters" "[LUmbrellaLand$Shelter;", Cond.fieldLink RX1 23 "UmbrellaLand$Republic" "umbrellas" "[LUmbrellaLand$Umbrella;", Cond.fieldLink RX1 29 "UmbrellaLand$Republic" "citizens" "[LUmbrellaLand$Citizen;", Cond.methodLink RX1 58 yX2_becomeLike, Cond.instanceMethod yX2_becomeLike, Cond.selects RX2 yX2_becomeLike yX2_becomeLike, Cond.initialized RX2]
def wsX4_wetAfter_r2 : List Cond := [Cond.code yX2_becomeLike cX2_becomeLike 2 none, Cond.fieldLink RX2 9 "UmbrellaLand$Shelter" "place" "I", Cond.fieldLink RX2 15 "UmbrellaLand$Shelter" "demand" "I", Cond.fieldLink RX2 18 "UmbrellaLand$Shelter" "taken" "I", Cond.fieldLink RX2 21 "UmbrellaLand$Shelter" "forgotten" "I", Cond.fieldLink RX2 24 "UmbrellaLand$Shelter" "refused" "I", Cond.fieldLink RX2 27 "UmbrellaLand$Shelter" "forgottenToday" "I", Cond.fieldLink RX2 30 "UmbrellaLand$Shelter" "refusedToday" "I", Cond.methodLink RX1 62 yX3_becomeLike, Cond.instanceMethod yX3_becomeLike, Cond.selects RX3 yX3_becomeLike yX3_becomeLike, Cond.initialized RX3, Cond.code yX3_becomeLike cX3_becomeLike 2 none, Cond.fieldLink RX3 25 "UmbrellaLand$Umbrella" "state" "I", Cond.fieldLink RX3 28 "UmbrellaLand$Umbrella" "holder" "I", Cond.fieldLink RX3 9 "UmbrellaLand$Umbrella" "wear" "I", Cond.fieldLink RX3 31 "UmbrellaLand$Umbrella" "waits" "I", Cond.fieldLink RX3 15 "UmbrellaLand$Umbrella" "taken" "I", Cond.fieldLink RX3 18 "UmbrellaLand$Umbrella" "takenFrom" "I", Cond.methodLink RX1 65 yX0_becomeLike, Cond.instanceMethod yX0_becomeLike, Cond.selects RX0 yX0_becomeLike yX0_becomeLike, Cond.initialized RX0, Cond.code yX0_becomeLike cX0_becomeLike 2 none]
def wsX4_wetAfter_r3 : List Cond := [Cond.fieldLink RX0 9 "UmbrellaLand$Citizen" "home" "I", Cond.fieldLink RX0 15 "UmbrellaLand$Citizen" "work" "I", Cond.fieldLink RX0 33 "UmbrellaLand$Citizen" "leaves" "I", Cond.fieldLink RX0 36 "UmbrellaLand$Citizen" "returns" "I", Cond.fieldLink RX0 39 "UmbrellaLand$Citizen" "forgets" "I", Cond.fieldLink RX0 18 "UmbrellaLand$Citizen" "hoursOfWalk" "I", Cond.fieldLink RX0 21 "UmbrellaLand$Citizen" "stays" "I", Cond.fieldLink RX0 24 "UmbrellaLand$Citizen" "goal" "I", Cond.fieldLink RX0 42 "UmbrellaLand$Citizen" "hoursToWalk" "I", Cond.fieldLink RX0 27 "UmbrellaLand$Citizen" "inHand" "I", Cond.fieldLink RX0 30 "UmbrellaLand$Citizen" "trust" "I", Cond.fieldLink RX0 45 "UmbrellaLand$Citizen" "wet" "I", Cond.fieldLink RX0 48 "UmbrellaLand$Citizen" "taken" "I", Cond.fieldLink RX0 51 "UmbrellaLand$Citizen" "forgotten" "I", Cond.fieldLink RX0 54 "UmbrellaLand$Citizen" "refused" "I", Cond.methodLink RX4 58 yX1_addUmbrella, Cond.instanceMethod yX1_addUmbrella, Cond.selects RX1 yX1_addUmbrella yX1_addUmbrella, Cond.code yX1_addUmbrella cX1_addUmbrella 2 none, Cond.methodLink RX1 75 yX3_beNewIn, Cond.instanceMethod yX3_beNewIn, Cond.selects RX3 yX3_beNewIn yX3_beNewIn, Cond.code yX3_beNewIn cX3_beNewIn 2 none, Cond.methodLink RX3 21 yX3_standIn]
def wsX4_wetAfter_r4 : List Cond := [Cond.instanceMethod yX3_standIn, Cond.selects RX3 yX3_standIn yX3_standIn, Cond.code yX3_standIn cX3_standIn 2 none, Cond.methodLink RX4 133 yX1_letGoBy, Cond.instanceMethod yX1_letGoBy, Cond.selects RX1 yX1_letGoBy yX1_letGoBy, Cond.code yX1_letGoBy cX1_letGoBy 5 (some .int), Cond.methodLink RX1 109 yJ9_floorMod_7cf53, Cond.static yJ9_floorMod_7cf53, Cond.initialized RJ9, Cond.code yJ9_floorMod_7cf53 cJ9_floorMod_7cf53 3 (some .int), Cond.methodLink RX1 112 yX1_letUmbrellasWait, Cond.instanceMethod yX1_letUmbrellasWait, Cond.selects RX1 yX1_letUmbrellasWait yX1_letUmbrellasWait, Cond.code yX1_letUmbrellasWait cX1_letUmbrellasWait 2 none, Cond.methodLink RX1 127 yX3_waitAnHour, Cond.instanceMethod yX3_waitAnHour, Cond.selects RX3 yX3_waitAnHour yX3_waitAnHour, Cond.code yX3_waitAnHour cX3_waitAnHour 1 none, Cond.methodLink RX1 115 yX1_letCitizensLeave, Cond.instanceMethod yX1_letCitizensLeave, Cond.selects RX1 yX1_letCitizensLeave yX1_letCitizensLeave, Cond.code yX1_letCitizensLeave cX1_letCitizensLeave 5 (some .int), Cond.methodLink RX1 130 yX0_leavesAt]
def wsX4_wetAfter_r5 : List Cond := [Cond.instanceMethod yX0_leavesAt, Cond.selects RX0 yX0_leavesAt yX0_leavesAt, Cond.code yX0_leavesAt cX0_leavesAt 2 (some .boolean), Cond.methodLink RX1 133 yX1_takeUmbrella, Cond.instanceMethod yX1_takeUmbrella, Cond.selects RX1 yX1_takeUmbrella yX1_takeUmbrella, Cond.code yX1_takeUmbrella cX1_takeUmbrella 5 (some .boolean), Cond.fieldLink RX1 139 "UmbrellaLand$Citizen" "stays" "I", Cond.fieldLink RX1 145 "UmbrellaLand$Citizen" "trust" "I", Cond.fieldLink RX1 148 "UmbrellaLand$Shelter" "demand" "I", Cond.fieldLink RX1 154 "UmbrellaLand$Citizen" "refused" "I", Cond.fieldLink RX1 163 "UmbrellaLand$Citizen" "inHand" "I", Cond.fieldLink RX1 166 "UmbrellaLand$Citizen" "taken" "I", Cond.fieldLink RX1 169 "UmbrellaLand$Shelter" "taken" "I", Cond.methodLink RX1 96 yX1_isShelter, Cond.instanceMethod yX1_isShelter, Cond.selects RX1 yX1_isShelter yX1_isShelter, Cond.code yX1_isShelter cX1_isShelter 2 (some .boolean), Cond.methodLink RX1 142 yX1_firstUmbrellaIn, Cond.instanceMethod yX1_firstUmbrellaIn, Cond.selects RX1 yX1_firstUmbrellaIn yX1_firstUmbrellaIn, Cond.code yX1_firstUmbrellaIn cX1_firstUmbrellaIn 5 (some .int), Cond.fieldLink RX1 183 "UmbrellaLand$Umbrella" "wear" "I", Cond.methodLink RX1 213 yX3_standsIn]
def wsX4_wetAfter_r6 : List Cond := [Cond.instanceMethod yX3_standsIn, Cond.selects RX3 yX3_standsIn yX3_standsIn, Cond.code yX3_standsIn cX3_standsIn 2 (some .boolean), Cond.methodLink RX1 151 yX1_isUmbrella, Cond.instanceMethod yX1_isUmbrella, Cond.selects RX1 yX1_isUmbrella yX1_isUmbrella, Cond.code yX1_isUmbrella cX1_isUmbrella 2 (some .boolean), Cond.methodLink RX1 157 yX2_noteRefusal, Cond.instanceMethod yX2_noteRefusal, Cond.selects RX2 yX2_noteRefusal yX2_noteRefusal, Cond.code yX2_noteRefusal cX2_noteRefusal 1 none, Cond.methodLink RX1 160 yX3_goWith, Cond.instanceMethod yX3_goWith, Cond.selects RX3 yX3_goWith yX3_goWith, Cond.code yX3_goWith cX3_goWith 2 none, Cond.methodLink RX1 136 yX0_setOut, Cond.instanceMethod yX0_setOut, Cond.selects RX0 yX0_setOut yX0_setOut, Cond.code yX0_setOut cX0_setOut 1 none, Cond.methodLink RX1 118 yX1_letCitizensWalk, Cond.instanceMethod yX1_letCitizensWalk, Cond.selects RX1 yX1_letCitizensWalk yX1_letCitizensWalk, Cond.code yX1_letCitizensWalk cX1_letCitizensWalk 4 none, Cond.fieldLink RX1 170 "UmbrellaLand$Citizen" "hoursToWalk" "I"]
def wsX4_wetAfter_r7 : List Cond := [Cond.methodLink RX1 173 yX1_meetRain, Cond.instanceMethod yX1_meetRain, Cond.selects RX1 yX1_meetRain yX1_meetRain, Cond.code yX1_meetRain cX1_meetRain 4 none, Cond.fieldLink RX1 180 "UmbrellaLand$Citizen" "wet" "I", Cond.methodLink RX1 186 yX3_stayAway, Cond.instanceMethod yX3_stayAway, Cond.selects RX3 yX3_stayAway yX3_stayAway, Cond.code yX3_stayAway cX3_stayAway 3 none, Cond.methodLink RX1 177 yX1_arrive, Cond.instanceMethod yX1_arrive, Cond.selects RX1 yX1_arrive yX1_arrive, Cond.code yX1_arrive cX1_arrive 3 none, Cond.fieldLink RX1 189 "UmbrellaLand$Citizen" "goal" "I", Cond.fieldLink RX1 205 "UmbrellaLand$Umbrella" "takenFrom" "I", Cond.methodLink RX1 192 yX0_forgetsThisOne, Cond.instanceMethod yX0_forgetsThisOne, Cond.selects RX0 yX0_forgetsThisOne yX0_forgetsThisOne, Cond.code yX0_forgetsThisOne cX0_forgetsThisOne 1 (some .boolean), Cond.methodLink RX1 196 yX3_standIn, Cond.methodLink RX1 199 yX0_noteBroughtBack, Cond.instanceMethod yX0_noteBroughtBack, Cond.selects RX0 yX0_noteBroughtBack yX0_noteBroughtBack, Cond.code yX0_noteBroughtBack cX0_noteBroughtBack 1 none]
def wsX4_wetAfter_r8 : List Cond := [Cond.methodLink RX0 63 Lib.Math.min.name, Cond.static Lib.Math.min.name, Cond.initialized "java/lang/Math", Cond.code Lib.Math.min.name Lib.Math.min.code 2 (some .int), Cond.methodLink RX1 202 yX0_noteForgotten, Cond.instanceMethod yX0_noteForgotten, Cond.selects RX0 yX0_noteForgotten yX0_noteForgotten, Cond.code yX0_noteForgotten cX0_noteForgotten 1 none, Cond.methodLink RX0 57 Lib.Math.max.name, Cond.static Lib.Math.max.name, Cond.code Lib.Math.max.name Lib.Math.max.code 2 (some .int), Cond.methodLink RX1 208 yX2_noteForgotten, Cond.instanceMethod yX2_noteForgotten, Cond.selects RX2 yX2_noteForgotten yX2_noteForgotten, Cond.code yX2_noteForgotten cX2_noteForgotten 1 none, Cond.methodLink RX1 121 yX1_driveCart, Cond.instanceMethod yX1_driveCart, Cond.selects RX1 yX1_driveCart yX1_driveCart, Cond.code yX1_driveCart cX1_driveCart 4 none, Cond.methodLink RX1 209 yX1_umbrellasIn, Cond.instanceMethod yX1_umbrellasIn, Cond.selects RX1 yX1_umbrellasIn yX1_umbrellasIn, Cond.code yX1_umbrellasIn cX1_umbrellasIn 4 (some .int), Cond.methodLink RX1 124 yX1_endDay]
def wsX4_wetAfter_r9 : List Cond := [Cond.instanceMethod yX1_endDay, Cond.selects RX1 yX1_endDay yX1_endDay, Cond.code yX1_endDay cX1_endDay 2 none, Cond.methodLink RX1 212 yX2_endDay, Cond.instanceMethod yX2_endDay, Cond.selects RX2 yX2_endDay yX2_endDay, Cond.code yX2_endDay cX2_endDay 1 none, Cond.methodLink RX2 33 Lib.Math.min.name, Cond.methodLink RX2 39 Lib.Math.max.name, Cond.methodLink RX4 140 yX1_wetOfAll, Cond.instanceMethod yX1_wetOfAll, Cond.selects RX1 yX1_wetOfAll yX1_wetOfAll, Cond.code yX1_wetOfAll cX1_wetOfAll 3 (some .int)]
def wsX4_wetAfter : List Cond := .code yX4_wetAfter cX4_wetAfter 3 (some .int) :: ((wsX4_wetAfter_r1 ++ (wsX4_wetAfter_r2 ++ (wsX4_wetAfter_r3 ++ (wsX4_wetAfter_r4 ++ (wsX4_wetAfter_r5 ++ (wsX4_wetAfter_r6 ++ (wsX4_wetAfter_r7 ++ (wsX4_wetAfter_r8 ++ wsX4_wetAfter_r9)))))))) ++ wsX40 ++ wsX10 ++ wsX20 ++ wsX30 ++ wsX00)
def wsX4_advise_r1 : List Cond := [Cond.classLink RX4 38 "java/lang/IllegalStateException", Cond.initialized "java/lang/IllegalStateException", Cond.fieldLink RX4 10 "UmbrellaLand" "now" "LUmbrellaLand$Republic;", Cond.fieldLink RX4 53 "UmbrellaLand$Republic" "umbrellaCount" "I", Cond.fieldLink RX4 30 "UmbrellaLand$Republic" "shelterCount" "I", Cond.methodLink RX4 130 yX4_checkHours, Cond.static yX4_checkHours, Cond.initialized RX4, Cond.code yX4_checkHours cX4_checkHours 2 none, Cond.classLink RX4 23 "java/lang/IllegalArgumentException", Cond.initialized "java/lang/IllegalArgumentException", Cond.methodLink RX4 19 yX4_isWithin, Cond.static yX4_isWithin, Cond.code yX4_isWithin cX4_isWithin 3 (some .boolean), Cond.methodLink RX4 152 yX4_wetAfter, Cond.instanceMethod yX4_wetAfter, Cond.selects RX4 yX4_wetAfter yX4_wetAfter, Cond.code yX4_wetAfter cX4_wetAfter 3 (some .int), Cond.fieldLink RX4 16 "UmbrellaLand" "ahead" "LUmbrellaLand$Republic;", Cond.methodLink RX4 136 yX1_becomeLike, Cond.instanceMethod yX1_becomeLike, Cond.selects RX1 yX1_becomeLike yX1_becomeLike, Cond.initialized RX1, Cond.code yX1_becomeLike cX1_becomeLike 3 none]
def wsX4_advise_r2 : List Cond := [Cond.fieldLink RX1 9 "UmbrellaLand$Republic" "rain" "[I", Cond.methodLink RX1 36 arraycopyName, Cond.native arraycopyName, Cond.static arraycopyName, Cond.initialized "java/lang/System", Cond.fieldLink RX1 42 "UmbrellaLand$Republic" "hour" "I", Cond.fieldLink RX1 46 "UmbrellaLand$Republic" "shelterCount" "I", Cond.fieldLink RX1 49 "UmbrellaLand$Republic" "umbrellaCount" "I", Cond.fieldLink RX1 52 "UmbrellaLand$Republic" "citizenCount" "I", Cond.fieldLink RX1 55 "UmbrellaLand$Republic" "carried" "I", Cond.fieldLink RX1 17 "UmbrellaLand$Republic" "shelters" "[LUmbrellaLand$Shelter;", Cond.fieldLink RX1 23 "UmbrellaLand$Republic" "umbrellas" "[LUmbrellaLand$Umbrella;", Cond.fieldLink RX1 29 "UmbrellaLand$Republic" "citizens" "[LUmbrellaLand$Citizen;", Cond.methodLink RX1 58 yX2_becomeLike, Cond.instanceMethod yX2_becomeLike, Cond.selects RX2 yX2_becomeLike yX2_becomeLike, Cond.initialized RX2, Cond.code yX2_becomeLike cX2_becomeLike 2 none, Cond.fieldLink RX2 9 "UmbrellaLand$Shelter" "place" "I", Cond.fieldLink RX2 15 "UmbrellaLand$Shelter" "demand" "I", Cond.fieldLink RX2 18 "UmbrellaLand$Shelter" "taken" "I", Cond.fieldLink RX2 21 "UmbrellaLand$Shelter" "forgotten" "I", Cond.fieldLink RX2 24 "UmbrellaLand$Shelter" "refused" "I", Cond.fieldLink RX2 27 "UmbrellaLand$Shelter" "forgottenToday" "I"]
def wsX4_advise_r3 : List Cond := [Cond.fieldLink RX2 30 "UmbrellaLand$Shelter" "refusedToday" "I", Cond.methodLink RX1 62 yX3_becomeLike, Cond.instanceMethod yX3_becomeLike, Cond.selects RX3 yX3_becomeLike yX3_becomeLike, Cond.initialized RX3, Cond.code yX3_becomeLike cX3_becomeLike 2 none, Cond.fieldLink RX3 25 "UmbrellaLand$Umbrella" "state" "I", Cond.fieldLink RX3 28 "UmbrellaLand$Umbrella" "holder" "I", Cond.fieldLink RX3 9 "UmbrellaLand$Umbrella" "wear" "I", Cond.fieldLink RX3 31 "UmbrellaLand$Umbrella" "waits" "I", Cond.fieldLink RX3 15 "UmbrellaLand$Umbrella" "taken" "I", Cond.fieldLink RX3 18 "UmbrellaLand$Umbrella" "takenFrom" "I", Cond.methodLink RX1 65 yX0_becomeLike, Cond.instanceMethod yX0_becomeLike, Cond.selects RX0 yX0_becomeLike yX0_becomeLike, Cond.initialized RX0, Cond.code yX0_becomeLike cX0_becomeLike 2 none, Cond.fieldLink RX0 9 "UmbrellaLand$Citizen" "home" "I", Cond.fieldLink RX0 15 "UmbrellaLand$Citizen" "work" "I", Cond.fieldLink RX0 33 "UmbrellaLand$Citizen" "leaves" "I", Cond.fieldLink RX0 36 "UmbrellaLand$Citizen" "returns" "I", Cond.fieldLink RX0 39 "UmbrellaLand$Citizen" "forgets" "I", Cond.fieldLink RX0 18 "UmbrellaLand$Citizen" "hoursOfWalk" "I", Cond.fieldLink RX0 21 "UmbrellaLand$Citizen" "stays" "I"]
def wsX4_advise_r4 : List Cond := [Cond.fieldLink RX0 24 "UmbrellaLand$Citizen" "goal" "I", Cond.fieldLink RX0 42 "UmbrellaLand$Citizen" "hoursToWalk" "I", Cond.fieldLink RX0 27 "UmbrellaLand$Citizen" "inHand" "I", Cond.fieldLink RX0 30 "UmbrellaLand$Citizen" "trust" "I", Cond.fieldLink RX0 45 "UmbrellaLand$Citizen" "wet" "I", Cond.fieldLink RX0 48 "UmbrellaLand$Citizen" "taken" "I", Cond.fieldLink RX0 51 "UmbrellaLand$Citizen" "forgotten" "I", Cond.fieldLink RX0 54 "UmbrellaLand$Citizen" "refused" "I", Cond.methodLink RX4 58 yX1_addUmbrella, Cond.instanceMethod yX1_addUmbrella, Cond.selects RX1 yX1_addUmbrella yX1_addUmbrella, Cond.code yX1_addUmbrella cX1_addUmbrella 2 none, Cond.methodLink RX1 75 yX3_beNewIn, Cond.instanceMethod yX3_beNewIn, Cond.selects RX3 yX3_beNewIn yX3_beNewIn, Cond.code yX3_beNewIn cX3_beNewIn 2 none, Cond.methodLink RX3 21 yX3_standIn, Cond.instanceMethod yX3_standIn, Cond.selects RX3 yX3_standIn yX3_standIn, Cond.code yX3_standIn cX3_standIn 2 none, Cond.methodLink RX4 133 yX1_letGoBy, Cond.instanceMethod yX1_letGoBy, Cond.selects RX1 yX1_letGoBy yX1_letGoBy, Cond.code yX1_letGoBy cX1_letGoBy 5 (some .int)]
def wsX4_advise_r5 : List Cond := [Cond.methodLink RX1 109 yJ9_floorMod_7cf53, Cond.static yJ9_floorMod_7cf53, Cond.initialized RJ9, Cond.code yJ9_floorMod_7cf53 cJ9_floorMod_7cf53 3 (some .int), Cond.methodLink RX1 112 yX1_letUmbrellasWait, Cond.instanceMethod yX1_letUmbrellasWait, Cond.selects RX1 yX1_letUmbrellasWait yX1_letUmbrellasWait, Cond.code yX1_letUmbrellasWait cX1_letUmbrellasWait 2 none, Cond.methodLink RX1 127 yX3_waitAnHour, Cond.instanceMethod yX3_waitAnHour, Cond.selects RX3 yX3_waitAnHour yX3_waitAnHour, Cond.code yX3_waitAnHour cX3_waitAnHour 1 none, Cond.methodLink RX1 115 yX1_letCitizensLeave, Cond.instanceMethod yX1_letCitizensLeave, Cond.selects RX1 yX1_letCitizensLeave yX1_letCitizensLeave, Cond.code yX1_letCitizensLeave cX1_letCitizensLeave 5 (some .int), Cond.methodLink RX1 130 yX0_leavesAt, Cond.instanceMethod yX0_leavesAt, Cond.selects RX0 yX0_leavesAt yX0_leavesAt, Cond.code yX0_leavesAt cX0_leavesAt 2 (some .boolean), Cond.methodLink RX1 133 yX1_takeUmbrella, Cond.instanceMethod yX1_takeUmbrella, Cond.selects RX1 yX1_takeUmbrella yX1_takeUmbrella, Cond.code yX1_takeUmbrella cX1_takeUmbrella 5 (some .boolean)]
def wsX4_advise_r6 : List Cond := [Cond.fieldLink RX1 139 "UmbrellaLand$Citizen" "stays" "I", Cond.fieldLink RX1 145 "UmbrellaLand$Citizen" "trust" "I", Cond.fieldLink RX1 148 "UmbrellaLand$Shelter" "demand" "I", Cond.fieldLink RX1 154 "UmbrellaLand$Citizen" "refused" "I", Cond.fieldLink RX1 163 "UmbrellaLand$Citizen" "inHand" "I", Cond.fieldLink RX1 166 "UmbrellaLand$Citizen" "taken" "I", Cond.fieldLink RX1 169 "UmbrellaLand$Shelter" "taken" "I", Cond.methodLink RX1 96 yX1_isShelter, Cond.instanceMethod yX1_isShelter, Cond.selects RX1 yX1_isShelter yX1_isShelter, Cond.code yX1_isShelter cX1_isShelter 2 (some .boolean), Cond.methodLink RX1 142 yX1_firstUmbrellaIn, Cond.instanceMethod yX1_firstUmbrellaIn, Cond.selects RX1 yX1_firstUmbrellaIn yX1_firstUmbrellaIn, Cond.code yX1_firstUmbrellaIn cX1_firstUmbrellaIn 5 (some .int), Cond.fieldLink RX1 183 "UmbrellaLand$Umbrella" "wear" "I", Cond.methodLink RX1 213 yX3_standsIn, Cond.instanceMethod yX3_standsIn, Cond.selects RX3 yX3_standsIn yX3_standsIn, Cond.code yX3_standsIn cX3_standsIn 2 (some .boolean), Cond.methodLink RX1 151 yX1_isUmbrella, Cond.instanceMethod yX1_isUmbrella, Cond.selects RX1 yX1_isUmbrella yX1_isUmbrella, Cond.code yX1_isUmbrella cX1_isUmbrella 2 (some .boolean)]
def wsX4_advise_r7 : List Cond := [Cond.methodLink RX1 157 yX2_noteRefusal, Cond.instanceMethod yX2_noteRefusal, Cond.selects RX2 yX2_noteRefusal yX2_noteRefusal, Cond.code yX2_noteRefusal cX2_noteRefusal 1 none, Cond.methodLink RX1 160 yX3_goWith, Cond.instanceMethod yX3_goWith, Cond.selects RX3 yX3_goWith yX3_goWith, Cond.code yX3_goWith cX3_goWith 2 none, Cond.methodLink RX1 136 yX0_setOut, Cond.instanceMethod yX0_setOut, Cond.selects RX0 yX0_setOut yX0_setOut, Cond.code yX0_setOut cX0_setOut 1 none, Cond.methodLink RX1 118 yX1_letCitizensWalk, Cond.instanceMethod yX1_letCitizensWalk, Cond.selects RX1 yX1_letCitizensWalk yX1_letCitizensWalk, Cond.code yX1_letCitizensWalk cX1_letCitizensWalk 4 none, Cond.fieldLink RX1 170 "UmbrellaLand$Citizen" "hoursToWalk" "I", Cond.methodLink RX1 173 yX1_meetRain, Cond.instanceMethod yX1_meetRain, Cond.selects RX1 yX1_meetRain yX1_meetRain, Cond.code yX1_meetRain cX1_meetRain 4 none, Cond.fieldLink RX1 180 "UmbrellaLand$Citizen" "wet" "I", Cond.methodLink RX1 186 yX3_stayAway, Cond.instanceMethod yX3_stayAway]
def wsX4_advise_r8 : List Cond := [Cond.selects RX3 yX3_stayAway yX3_stayAway, Cond.code yX3_stayAway cX3_stayAway 3 none, Cond.methodLink RX1 177 yX1_arrive, Cond.instanceMethod yX1_arrive, Cond.selects RX1 yX1_arrive yX1_arrive, Cond.code yX1_arrive cX1_arrive 3 none, Cond.fieldLink RX1 189 "UmbrellaLand$Citizen" "goal" "I", Cond.fieldLink RX1 205 "UmbrellaLand$Umbrella" "takenFrom" "I", Cond.methodLink RX1 192 yX0_forgetsThisOne, Cond.instanceMethod yX0_forgetsThisOne, Cond.selects RX0 yX0_forgetsThisOne yX0_forgetsThisOne, Cond.code yX0_forgetsThisOne cX0_forgetsThisOne 1 (some .boolean), Cond.methodLink RX1 196 yX3_standIn, Cond.methodLink RX1 199 yX0_noteBroughtBack, Cond.instanceMethod yX0_noteBroughtBack, Cond.selects RX0 yX0_noteBroughtBack yX0_noteBroughtBack, Cond.code yX0_noteBroughtBack cX0_noteBroughtBack 1 none, Cond.methodLink RX0 63 Lib.Math.min.name, Cond.static Lib.Math.min.name, Cond.initialized "java/lang/Math", Cond.code Lib.Math.min.name Lib.Math.min.code 2 (some .int), Cond.methodLink RX1 202 yX0_noteForgotten, Cond.instanceMethod yX0_noteForgotten, Cond.selects RX0 yX0_noteForgotten yX0_noteForgotten]
def wsX4_advise_r9 : List Cond := [Cond.code yX0_noteForgotten cX0_noteForgotten 1 none, Cond.methodLink RX0 57 Lib.Math.max.name, Cond.static Lib.Math.max.name, Cond.code Lib.Math.max.name Lib.Math.max.code 2 (some .int), Cond.methodLink RX1 208 yX2_noteForgotten, Cond.instanceMethod yX2_noteForgotten, Cond.selects RX2 yX2_noteForgotten yX2_noteForgotten, Cond.code yX2_noteForgotten cX2_noteForgotten 1 none, Cond.methodLink RX1 121 yX1_driveCart, Cond.instanceMethod yX1_driveCart, Cond.selects RX1 yX1_driveCart yX1_driveCart, Cond.code yX1_driveCart cX1_driveCart 4 none, Cond.methodLink RX1 209 yX1_umbrellasIn, Cond.instanceMethod yX1_umbrellasIn, Cond.selects RX1 yX1_umbrellasIn yX1_umbrellasIn, Cond.code yX1_umbrellasIn cX1_umbrellasIn 4 (some .int), Cond.methodLink RX1 124 yX1_endDay, Cond.instanceMethod yX1_endDay, Cond.selects RX1 yX1_endDay yX1_endDay, Cond.code yX1_endDay cX1_endDay 2 none, Cond.methodLink RX1 212 yX2_endDay, Cond.instanceMethod yX2_endDay, Cond.selects RX2 yX2_endDay yX2_endDay, Cond.code yX2_endDay cX2_endDay 1 none]
def wsX4_advise_r10 : List Cond := [Cond.methodLink RX2 33 Lib.Math.min.name, Cond.methodLink RX2 39 Lib.Math.max.name, Cond.methodLink RX4 140 yX1_wetOfAll, Cond.instanceMethod yX1_wetOfAll, Cond.selects RX1 yX1_wetOfAll yX1_wetOfAll, Cond.code yX1_wetOfAll cX1_wetOfAll 3 (some .int)]
def wsX4_advise : List Cond := .code yX4_advise cX4_advise 6 (some .int) :: ((wsX4_advise_r1 ++ (wsX4_advise_r2 ++ (wsX4_advise_r3 ++ (wsX4_advise_r4 ++ (wsX4_advise_r5 ++ (wsX4_advise_r6 ++ (wsX4_advise_r7 ++ (wsX4_advise_r8 ++ (wsX4_advise_r9 ++ wsX4_advise_r10))))))))) ++ wsX40 ++ wsX10 ++ wsX20 ++ wsX30 ++ wsX00 ++ (vx_atS RX4 42 "java/lang/IllegalStateException" ["java/lang/RuntimeException", "java/lang/Exception"]).filter goodWord ++ (vx_atS RX4 27 "java/lang/IllegalArgumentException" ["java/lang/RuntimeException", "java/lang/Exception"]).filter goodWord)
def wsX4_wouldGet_r1 : List Cond := [Cond.fieldLink RX4 10 "UmbrellaLand" "now" "LUmbrellaLand$Republic;", Cond.fieldLink RX4 120 "UmbrellaLand$Republic" "citizens" "[LUmbrellaLand$Citizen;", Cond.fieldLink RX4 155 "UmbrellaLand$Citizen" "trust" "I", Cond.fieldLink RX4 88 "UmbrellaLand$Republic" "shelters" "[LUmbrellaLand$Shelter;", Cond.fieldLink RX4 92 "UmbrellaLand$Shelter" "demand" "I", Cond.methodLink RX4 117 yX4_checkCitizen, Cond.instanceMethod yX4_checkCitizen, Cond.selects RX4 yX4_checkCitizen yX4_checkCitizen, Cond.initialized RX4, Cond.code yX4_checkCitizen cX4_checkCitizen 2 none, Cond.classLink RX4 179 "java/lang/IndexOutOfBoundsException", Cond.initialized "java/lang/IndexOutOfBoundsException", Cond.methodLink RX4 189 yX1_isCitizen, Cond.instanceMethod yX1_isCitizen, Cond.selects RX1 yX1_isCitizen yX1_isCitizen, Cond.initialized RX1, Cond.code yX1_isCitizen cX1_isCitizen 2 (some .boolean), Cond.fieldLink RX1 52 "UmbrellaLand$Republic" "citizenCount" "I", Cond.methodLink RX4 47 yX4_checkShelter, Cond.instanceMethod yX4_checkShelter, Cond.selects RX4 yX4_checkShelter yX4_checkShelter, Cond.code yX4_checkShelter cX4_checkShelter 2 none, Cond.methodLink RX4 176 yX1_isShelter, Cond.instanceMethod yX1_isShelter]
def wsX4_wouldGet_r2 : List Cond := [Cond.selects RX1 yX1_isShelter yX1_isShelter, Cond.code yX1_isShelter cX1_isShelter 2 (some .boolean), Cond.fieldLink RX1 46 "UmbrellaLand$Republic" "shelterCount" "I", Cond.methodLink RX4 158 yX1_firstUmbrellaIn, Cond.instanceMethod yX1_firstUmbrellaIn, Cond.selects RX1 yX1_firstUmbrellaIn yX1_firstUmbrellaIn, Cond.code yX1_firstUmbrellaIn cX1_firstUmbrellaIn 5 (some .int), Cond.fieldLink RX1 49 "UmbrellaLand$Republic" "umbrellaCount" "I", Cond.fieldLink RX1 23 "UmbrellaLand$Republic" "umbrellas" "[LUmbrellaLand$Umbrella;", Cond.fieldLink RX1 183 "UmbrellaLand$Umbrella" "wear" "I", Cond.methodLink RX1 213 yX3_standsIn, Cond.instanceMethod yX3_standsIn, Cond.selects RX3 yX3_standsIn yX3_standsIn, Cond.initialized RX3, Cond.code yX3_standsIn cX3_standsIn 2 (some .boolean), Cond.fieldLink RX3 25 "UmbrellaLand$Umbrella" "state" "I", Cond.fieldLink RX3 28 "UmbrellaLand$Umbrella" "holder" "I"]
def wsX4_wouldGet : List Cond := .code yX4_wouldGet cX4_wouldGet 3 (some .boolean) :: ((wsX4_wouldGet_r1 ++ wsX4_wouldGet_r2) ++ wsX40 ++ wsX10 ++ wsX00 ++ wsX20 ++ wsX30 ++ (vx_atS RX4 183 "java/lang/IndexOutOfBoundsException" ["java/lang/RuntimeException", "java/lang/Exception"]).filter goodWord)
def wsX4_lasts_r1 : List Cond := [Cond.fieldLink RX4 10 "UmbrellaLand" "now" "LUmbrellaLand$Republic;", Cond.fieldLink RX4 107 "UmbrellaLand$Republic" "umbrellas" "[LUmbrellaLand$Umbrella;", Cond.fieldLink RX4 161 "UmbrellaLand$Umbrella" "state" "I", Cond.fieldLink RX4 164 "UmbrellaLand$Umbrella" "wear" "I", Cond.fieldLink RX4 82 "UmbrellaLand$Republic" "rain" "[I", Cond.methodLink RX4 104 yX4_checkUmbrella, Cond.instanceMethod yX4_checkUmbrella, Cond.selects RX4 yX4_checkUmbrella yX4_checkUmbrella, Cond.initialized RX4, Cond.code yX4_checkUmbrella cX4_checkUmbrella 2 none, Cond.classLink RX4 179 "java/lang/IndexOutOfBoundsException", Cond.initialized "java/lang/IndexOutOfBoundsException", Cond.methodLink RX4 184 yX1_isUmbrella, Cond.instanceMethod yX1_isUmbrella, Cond.selects RX1 yX1_isUmbrella yX1_isUmbrella, Cond.initialized RX1, Cond.code yX1_isUmbrella cX1_isUmbrella 2 (some .boolean), Cond.fieldLink RX1 49 "UmbrellaLand$Republic" "umbrellaCount" "I", Cond.methodLink RX4 77 yX4_checkHourOfDay, Cond.static yX4_checkHourOfDay, Cond.code yX4_checkHourOfDay cX4_checkHourOfDay 1 none, Cond.methodLink RX4 63 yX4_isHourOfDay, Cond.static yX4_isHourOfDay, Cond.code yX4_isHourOfDay cX4_isHourOfDay 1 (some .boolean)]
def wsX4_lasts_r2 : List Cond := [Cond.methodLink RX4 19 yX4_isWithin, Cond.static yX4_isWithin, Cond.code yX4_isWithin cX4_isWithin 3 (some .boolean), Cond.methodLink RX4 167 yJ9_floorMod_7cf53, Cond.static yJ9_floorMod_7cf53, Cond.initialized RJ9, Cond.code yJ9_floorMod_7cf53 cJ9_floorMod_7cf53 3 (some .int)]
def wsX4_lasts : List Cond := .code yX4_lasts cX4_lasts 5 (some .int) :: ((wsX4_lasts_r1 ++ wsX4_lasts_r2) ++ wsX40 ++ wsX10 ++ wsX30 ++ (vx_atS RX4 183 "java/lang/IndexOutOfBoundsException" ["java/lang/RuntimeException", "java/lang/Exception"]).filter goodWord)
def wsX4_trust : List Cond := .code yX4_trust cX4_trust 1 (some .double) :: ([.fieldLink RX4 10 "UmbrellaLand" "now" "LUmbrellaLand$Republic;", .fieldLink RX4 68 "UmbrellaLand$Republic" "citizenCount" "I", .methodLink RX4 147 yX1_trustOfAll, .instanceMethod yX1_trustOfAll, .selects RX1 yX1_trustOfAll yX1_trustOfAll, .initialized RX1, .code yX1_trustOfAll cX1_trustOfAll 3 (some .int), .fieldLink RX1 52 "UmbrellaLand$Republic" "citizenCount" "I", .fieldLink RX1 29 "UmbrellaLand$Republic" "citizens" "[LUmbrellaLand$Citizen;", .fieldLink RX1 145 "UmbrellaLand$Citizen" "trust" "I"] ++ wsX40 ++ wsX10 ++ wsX00)
def wsX4_digest_r1 : List Cond := [Cond.constantLong RX4 172 (569), Cond.constantLong RX4 174 (31), Cond.fieldLink RX4 10 "UmbrellaLand" "now" "LUmbrellaLand$Republic;", Cond.fieldLink RX4 82 "UmbrellaLand$Republic" "rain" "[I", Cond.fieldLink RX4 30 "UmbrellaLand$Republic" "shelterCount" "I", Cond.fieldLink RX4 53 "UmbrellaLand$Republic" "umbrellaCount" "I", Cond.fieldLink RX4 107 "UmbrellaLand$Republic" "umbrellas" "[LUmbrellaLand$Umbrella;", Cond.fieldLink RX4 68 "UmbrellaLand$Republic" "citizenCount" "I", Cond.fieldLink RX4 120 "UmbrellaLand$Republic" "citizens" "[LUmbrellaLand$Citizen;", Cond.methodLink RX4 127 yX1_tellAll, Cond.instanceMethod yX1_tellAll, Cond.selects RX1 yX1_tellAll yX1_tellAll, Cond.initialized RX1, Cond.code yX1_tellAll cX1_tellAll 2 (some .int), Cond.fieldLink RX1 42 "UmbrellaLand$Republic" "hour" "I", Cond.fieldLink RX1 46 "UmbrellaLand$Republic" "shelterCount" "I", Cond.fieldLink RX1 49 "UmbrellaLand$Republic" "umbrellaCount" "I", Cond.fieldLink RX1 52 "UmbrellaLand$Republic" "citizenCount" "I", Cond.fieldLink RX1 55 "UmbrellaLand$Republic" "carried" "I", Cond.methodLink RX1 226 yX1_umbrellasThatAre, Cond.instanceMethod yX1_umbrellasThatAre, Cond.selects RX1 yX1_umbrellasThatAre yX1_umbrellasThatAre, Cond.code yX1_umbrellasThatAre cX1_umbrellasThatAre 4 (some .int), Cond.fieldLink RX1 23 "UmbrellaLand$Republic" "umbrellas" "[LUmbrellaLand$Umbrella;"]
def wsX4_digest_r2 : List Cond := [Cond.fieldLink RX1 216 "UmbrellaLand$Umbrella" "state" "I", Cond.methodLink RX1 219 yX1_citizensIn, Cond.instanceMethod yX1_citizensIn, Cond.selects RX1 yX1_citizensIn yX1_citizensIn, Cond.code yX1_citizensIn cX1_citizensIn 4 (some .int), Cond.fieldLink RX1 29 "UmbrellaLand$Republic" "citizens" "[LUmbrellaLand$Citizen;", Cond.fieldLink RX1 139 "UmbrellaLand$Citizen" "stays" "I", Cond.methodLink RX1 229 yX1_wetOfAll, Cond.instanceMethod yX1_wetOfAll, Cond.selects RX1 yX1_wetOfAll yX1_wetOfAll, Cond.code yX1_wetOfAll cX1_wetOfAll 3 (some .int), Cond.fieldLink RX1 180 "UmbrellaLand$Citizen" "wet" "I", Cond.methodLink RX4 101 yX1_tellShelter, Cond.instanceMethod yX1_tellShelter, Cond.selects RX1 yX1_tellShelter yX1_tellShelter, Cond.code yX1_tellShelter cX1_tellShelter 4 (some .int), Cond.fieldLink RX1 17 "UmbrellaLand$Republic" "shelters" "[LUmbrellaLand$Shelter;", Cond.fieldLink RX1 68 "UmbrellaLand$Shelter" "place" "I", Cond.fieldLink RX1 148 "UmbrellaLand$Shelter" "demand" "I", Cond.fieldLink RX1 169 "UmbrellaLand$Shelter" "taken" "I", Cond.fieldLink RX1 222 "UmbrellaLand$Shelter" "forgotten" "I", Cond.fieldLink RX1 225 "UmbrellaLand$Shelter" "refused" "I", Cond.methodLink RX1 96 yX1_isShelter, Cond.instanceMethod yX1_isShelter]
def wsX4_digest_r3 : List Cond := [Cond.selects RX1 yX1_isShelter yX1_isShelter, Cond.code yX1_isShelter cX1_isShelter 2 (some .boolean), Cond.methodLink RX1 209 yX1_umbrellasIn, Cond.instanceMethod yX1_umbrellasIn, Cond.selects RX1 yX1_umbrellasIn yX1_umbrellasIn, Cond.code yX1_umbrellasIn cX1_umbrellasIn 4 (some .int), Cond.methodLink RX1 213 yX3_standsIn, Cond.instanceMethod yX3_standsIn, Cond.selects RX3 yX3_standsIn yX3_standsIn, Cond.initialized RX3, Cond.code yX3_standsIn cX3_standsIn 2 (some .boolean), Cond.fieldLink RX3 25 "UmbrellaLand$Umbrella" "state" "I", Cond.fieldLink RX3 28 "UmbrellaLand$Umbrella" "holder" "I", Cond.methodLink RX1 142 yX1_firstUmbrellaIn, Cond.instanceMethod yX1_firstUmbrellaIn, Cond.selects RX1 yX1_firstUmbrellaIn yX1_firstUmbrellaIn, Cond.code yX1_firstUmbrellaIn cX1_firstUmbrellaIn 5 (some .int), Cond.fieldLink RX1 183 "UmbrellaLand$Umbrella" "wear" "I", Cond.methodLink RX4 111 yX3_tell, Cond.instanceMethod yX3_tell, Cond.selects RX3 yX3_tell yX3_tell, Cond.code yX3_tell cX3_tell 2 (some .int), Cond.fieldLink RX3 9 "UmbrellaLand$Umbrella" "wear" "I", Cond.fieldLink RX3 31 "UmbrellaLand$Umbrella" "waits" "I"]
def wsX4_digest_r4 : List Cond := [Cond.fieldLink RX3 15 "UmbrellaLand$Umbrella" "taken" "I", Cond.fieldLink RX3 18 "UmbrellaLand$Umbrella" "takenFrom" "I", Cond.methodLink RX4 124 yX0_tell, Cond.instanceMethod yX0_tell, Cond.selects RX0 yX0_tell yX0_tell, Cond.initialized RX0, Cond.code yX0_tell cX0_tell 2 (some .int), Cond.fieldLink RX0 9 "UmbrellaLand$Citizen" "home" "I", Cond.fieldLink RX0 15 "UmbrellaLand$Citizen" "work" "I", Cond.fieldLink RX0 21 "UmbrellaLand$Citizen" "stays" "I", Cond.fieldLink RX0 42 "UmbrellaLand$Citizen" "hoursToWalk" "I", Cond.fieldLink RX0 27 "UmbrellaLand$Citizen" "inHand" "I", Cond.fieldLink RX0 30 "UmbrellaLand$Citizen" "trust" "I", Cond.fieldLink RX0 45 "UmbrellaLand$Citizen" "wet" "I", Cond.fieldLink RX0 48 "UmbrellaLand$Citizen" "taken" "I", Cond.fieldLink RX0 51 "UmbrellaLand$Citizen" "forgotten" "I", Cond.fieldLink RX0 54 "UmbrellaLand$Citizen" "refused" "I"]
def wsX4_digest : List Cond := .code yX4_digest cX4_digest 5 (some .long) :: ((wsX4_digest_r1 ++ (wsX4_digest_r2 ++ (wsX4_digest_r3 ++ wsX4_digest_r4))) ++ wsX40 ++ wsX10 ++ wsX30 ++ wsX00 ++ wsX20)
def wsX5_init : List Cond := .code yX5_init cX5_init 2 none :: ([.fieldLink RX5 3 "UmbrellaLandModel$State" "this$0" "LUmbrellaLandModel;", .methodLink RX5 9 objectInit, .instanceMethod objectInit, .code objectInit ⟨#[0xb1]⟩ 1 none, .arrayClass .int, .fieldLink RX5 15 "UmbrellaLandModel$State" "place" "[I", .fieldLink RX5 19 "UmbrellaLandModel$State" "demand" "[I", .fieldLink RX5 22 "UmbrellaLandModel$State" "told" "[I", .fieldLink RX5 25 "UmbrellaLandModel$State" "kind" "[I", .fieldLink RX5 28 "UmbrellaLandModel$State" "at" "[I", .fieldLink RX5 31 "UmbrellaLandModel$State" "wear" "[I", .fieldLink RX5 34 "UmbrellaLandModel$State" "waits" "[I", .fieldLink RX5 37 "UmbrellaLandModel$State" "taken" "[I", .fieldLink RX5 40 "UmbrellaLandModel$State" "from" "[I", .fieldLink RX5 43 "UmbrellaLandModel$State" "citizen" "[I", .fieldLink RX5 46 "UmbrellaLandModel$State" "is" "[I", .fieldLink RX5 49 "UmbrellaLandModel$State" "to" "[I", .fieldLink RX5 52 "UmbrellaLandModel$State" "left" "[I", .fieldLink RX5 55 "UmbrellaLandModel$State" "holds" "[I", .fieldLink RX5 58 "UmbrellaLandModel$State" "trust" "[I", .fieldLink RX5 61 "UmbrellaLandModel$State" "own" "[I"] ++ wsX50)
def wsX5_copy : List Cond := .code yX5_copy cX5_copy 3 none :: ([.methodLink RX5 64 arraycopyName, .native arraycopyName, .static arraycopyName, .initialized "java/lang/System"])
def wsX5_become_r1 : List Cond := [Cond.fieldLink RX5 70 "UmbrellaLandModel$State" "hour" "I", Cond.fieldLink RX5 74 "UmbrellaLandModel$State" "shelters" "I", Cond.fieldLink RX5 77 "UmbrellaLandModel$State" "umbrellas" "I", Cond.fieldLink RX5 80 "UmbrellaLandModel$State" "citizens" "I", Cond.fieldLink RX5 83 "UmbrellaLandModel$State" "carried" "I", Cond.fieldLink RX5 15 "UmbrellaLandModel$State" "place" "[I", Cond.fieldLink RX5 19 "UmbrellaLandModel$State" "demand" "[I", Cond.fieldLink RX5 22 "UmbrellaLandModel$State" "told" "[I", Cond.fieldLink RX5 25 "UmbrellaLandModel$State" "kind" "[I", Cond.fieldLink RX5 28 "UmbrellaLandModel$State" "at" "[I", Cond.fieldLink RX5 31 "UmbrellaLandModel$State" "wear" "[I", Cond.fieldLink RX5 34 "UmbrellaLandModel$State" "waits" "[I", Cond.fieldLink RX5 37 "UmbrellaLandModel$State" "taken" "[I", Cond.fieldLink RX5 40 "UmbrellaLandModel$State" "from" "[I", Cond.fieldLink RX5 43 "UmbrellaLandModel$State" "citizen" "[I", Cond.fieldLink RX5 46 "UmbrellaLandModel$State" "is" "[I", Cond.fieldLink RX5 49 "UmbrellaLandModel$State" "to" "[I", Cond.fieldLink RX5 52 "UmbrellaLandModel$State" "left" "[I", Cond.fieldLink RX5 55 "UmbrellaLandModel$State" "holds" "[I", Cond.fieldLink RX5 58 "UmbrellaLandModel$State" "trust" "[I", Cond.fieldLink RX5 61 "UmbrellaLandModel$State" "own" "[I", Cond.methodLink RX5 86 yX5_copy, Cond.instanceMethod yX5_copy, Cond.selects RX5 yX5_copy yX5_copy]
def wsX5_become_r2 : List Cond := [Cond.initialized RX5, Cond.code yX5_copy cX5_copy 3 none, Cond.methodLink RX5 64 arraycopyName, Cond.native arraycopyName, Cond.static arraycopyName, Cond.initialized "java/lang/System"]
def wsX5_become : List Cond := .code yX5_become cX5_become 2 none :: ((wsX5_become_r1 ++ wsX5_become_r2) ++ wsX50)
def wsX5_bring : List Cond := .code yX5_bring cX5_bring 2 none :: ([.fieldLink RX5 25 "UmbrellaLandModel$State" "kind" "[I", .fieldLink RX5 77 "UmbrellaLandModel$State" "umbrellas" "I", .fieldLink RX5 28 "UmbrellaLandModel$State" "at" "[I", .fieldLink RX5 31 "UmbrellaLandModel$State" "wear" "[I", .fieldLink RX5 34 "UmbrellaLandModel$State" "waits" "[I", .fieldLink RX5 37 "UmbrellaLandModel$State" "taken" "[I", .fieldLink RX5 40 "UmbrellaLandModel$State" "from" "[I"] ++ wsX50)
def wsX5_first : List Cond := .code yX5_first cX5_first 4 (some .int) :: ([.fieldLink RX5 77 "UmbrellaLandModel$State" "umbrellas" "I", .fieldLink RX5 25 "UmbrellaLandModel$State" "kind" "[I", .fieldLink RX5 28 "UmbrellaLandModel$State" "at" "[I", .fieldLink RX5 31 "UmbrellaLandModel$State" "wear" "[I"] ++ wsX50)
def wsX5_there : List Cond := .code yX5_there cX5_there 4 (some .int) :: ([.fieldLink RX5 77 "UmbrellaLandModel$State" "umbrellas" "I", .fieldLink RX5 25 "UmbrellaLandModel$State" "kind" "[I", .fieldLink RX5 28 "UmbrellaLandModel$State" "at" "[I"] ++ wsX50)
def wsX5_wouldGet : List Cond := .code yX5_wouldGet cX5_wouldGet 3 (some .boolean) :: ([.fieldLink RX5 58 "UmbrellaLandModel$State" "trust" "[I", .fieldLink RX5 19 "UmbrellaLandModel$State" "demand" "[I", .methodLink RX5 90 yX5_first, .instanceMethod yX5_first, .selects RX5 yX5_first yX5_first, .initialized RX5, .code yX5_first cX5_first 4 (some .int), .fieldLink RX5 77 "UmbrellaLandModel$State" "umbrellas" "I", .fieldLink RX5 25 "UmbrellaLandModel$State" "kind" "[I", .fieldLink RX5 28 "UmbrellaLandModel$State" "at" "[I", .fieldLink RX5 31 "UmbrellaLandModel$State" "wear" "[I"] ++ wsX50)
def wsX5_comeBack : List Cond := .code yX5_comeBack cX5_comeBack 2 none :: ([.fieldLink RX5 34 "UmbrellaLandModel$State" "waits" "[I", .fieldLink RX5 28 "UmbrellaLandModel$State" "at" "[I", .fieldLink RX5 25 "UmbrellaLandModel$State" "kind" "[I", .fieldLink RX5 40 "UmbrellaLandModel$State" "from" "[I", .fieldLink RX5 31 "UmbrellaLandModel$State" "wear" "[I"] ++ wsX50)
def wsX5_leave_r1 : List Cond := [Cond.fieldLink RX5 46 "UmbrellaLandModel$State" "is" "[I", Cond.fieldLink RX5 3 "UmbrellaLandModel$State" "this$0" "LUmbrellaLandModel;", Cond.fieldLink RX5 25 "UmbrellaLandModel$State" "kind" "[I", Cond.fieldLink RX5 28 "UmbrellaLandModel$State" "at" "[I", Cond.fieldLink RX5 40 "UmbrellaLandModel$State" "from" "[I", Cond.fieldLink RX5 37 "UmbrellaLandModel$State" "taken" "[I", Cond.fieldLink RX5 55 "UmbrellaLandModel$State" "holds" "[I", Cond.fieldLink RX5 61 "UmbrellaLandModel$State" "own" "[I", Cond.fieldLink RX5 22 "UmbrellaLandModel$State" "told" "[I", Cond.fieldLink RX5 49 "UmbrellaLandModel$State" "to" "[I", Cond.fieldLink RX5 43 "UmbrellaLandModel$State" "citizen" "[I", Cond.fieldLink RX5 52 "UmbrellaLandModel$State" "left" "[I", Cond.fieldLink RX5 15 "UmbrellaLandModel$State" "place" "[I", Cond.methodLink RX5 119 Lib.Math.abs.name, Cond.static Lib.Math.abs.name, Cond.initialized "java/lang/Math", Cond.code Lib.Math.abs.name Lib.Math.abs.code 1 (some .int), Cond.methodLink RX5 124 Lib.Math.max.name, Cond.static Lib.Math.max.name, Cond.code Lib.Math.max.name Lib.Math.max.code 2 (some .int), Cond.methodLink RX5 115 yX5_wouldGet, Cond.instanceMethod yX5_wouldGet, Cond.selects RX5 yX5_wouldGet yX5_wouldGet, Cond.initialized RX5]
def wsX5_leave_r2 : List Cond := [Cond.code yX5_wouldGet cX5_wouldGet 3 (some .boolean), Cond.fieldLink RX5 58 "UmbrellaLandModel$State" "trust" "[I", Cond.fieldLink RX5 19 "UmbrellaLandModel$State" "demand" "[I", Cond.methodLink RX5 90 yX5_first, Cond.instanceMethod yX5_first, Cond.selects RX5 yX5_first yX5_first, Cond.code yX5_first cX5_first 4 (some .int), Cond.fieldLink RX5 77 "UmbrellaLandModel$State" "umbrellas" "I", Cond.fieldLink RX5 31 "UmbrellaLandModel$State" "wear" "[I"]
def wsX5_leave : List Cond := .code yX5_leave cX5_leave 6 (some .int) :: ((wsX5_leave_r1 ++ wsX5_leave_r2) ++ wsX50 ++ wsX60)
def wsX5_lay : List Cond := .code yX5_lay cX5_lay 4 none :: ([.fieldLink RX5 61 "UmbrellaLandModel$State" "own" "[I", .fieldLink RX5 43 "UmbrellaLandModel$State" "citizen" "[I", .fieldLink RX5 25 "UmbrellaLandModel$State" "kind" "[I", .fieldLink RX5 28 "UmbrellaLandModel$State" "at" "[I", .fieldLink RX5 46 "UmbrellaLandModel$State" "is" "[I", .fieldLink RX5 58 "UmbrellaLandModel$State" "trust" "[I", .methodLink RX5 124 Lib.Math.max.name, .static Lib.Math.max.name, .initialized "java/lang/Math", .code Lib.Math.max.name Lib.Math.max.code 2 (some .int), .methodLink RX5 130 Lib.Math.min.name, .static Lib.Math.min.name, .code Lib.Math.min.name Lib.Math.min.code 2 (some .int), .fieldLink RX5 34 "UmbrellaLandModel$State" "waits" "[I", .fieldLink RX5 22 "UmbrellaLandModel$State" "told" "[I", .fieldLink RX5 40 "UmbrellaLandModel$State" "from" "[I"] ++ wsX50)
def wsX5_walk_r1 : List Cond := [Cond.fieldLink RX5 52 "UmbrellaLandModel$State" "left" "[I", Cond.fieldLink RX5 55 "UmbrellaLandModel$State" "holds" "[I", Cond.fieldLink RX5 61 "UmbrellaLandModel$State" "own" "[I", Cond.fieldLink RX5 31 "UmbrellaLandModel$State" "wear" "[I", Cond.fieldLink RX5 25 "UmbrellaLandModel$State" "kind" "[I", Cond.fieldLink RX5 28 "UmbrellaLandModel$State" "at" "[I", Cond.fieldLink RX5 34 "UmbrellaLandModel$State" "waits" "[I", Cond.fieldLink RX5 46 "UmbrellaLandModel$State" "is" "[I", Cond.fieldLink RX5 49 "UmbrellaLandModel$State" "to" "[I", Cond.methodLink RX5 127 yX5_lay, Cond.instanceMethod yX5_lay, Cond.selects RX5 yX5_lay yX5_lay, Cond.initialized RX5, Cond.code yX5_lay cX5_lay 4 none, Cond.fieldLink RX5 43 "UmbrellaLandModel$State" "citizen" "[I", Cond.fieldLink RX5 58 "UmbrellaLandModel$State" "trust" "[I", Cond.methodLink RX5 124 Lib.Math.max.name, Cond.static Lib.Math.max.name, Cond.initialized "java/lang/Math", Cond.code Lib.Math.max.name Lib.Math.max.code 2 (some .int), Cond.methodLink RX5 130 Lib.Math.min.name, Cond.static Lib.Math.min.name, Cond.code Lib.Math.min.name Lib.Math.min.code 2 (some .int), Cond.fieldLink RX5 22 "UmbrellaLandModel$State" "told" "[I"]
def wsX5_walk_r2 : List Cond := [Cond.fieldLink RX5 40 "UmbrellaLandModel$State" "from" "[I"]
def wsX5_walk : List Cond := .code yX5_walk cX5_walk 4 none :: ((wsX5_walk_r1 ++ wsX5_walk_r2) ++ wsX50)
def wsX5_cart : List Cond := .code yX5_cart cX5_cart 4 none :: ([.fieldLink RX5 74 "UmbrellaLandModel$State" "shelters" "I", .fieldLink RX5 28 "UmbrellaLandModel$State" "at" "[I", .fieldLink RX5 83 "UmbrellaLandModel$State" "carried" "I", .methodLink RX5 133 yX5_there, .instanceMethod yX5_there, .selects RX5 yX5_there yX5_there, .initialized RX5, .code yX5_there cX5_there 4 (some .int), .fieldLink RX5 77 "UmbrellaLandModel$State" "umbrellas" "I", .fieldLink RX5 25 "UmbrellaLandModel$State" "kind" "[I", .methodLink RX5 90 yX5_first, .instanceMethod yX5_first, .selects RX5 yX5_first yX5_first, .code yX5_first cX5_first 4 (some .int), .fieldLink RX5 31 "UmbrellaLandModel$State" "wear" "[I"] ++ wsX50)
def wsX5_decree : List Cond := .code yX5_decree cX5_decree 2 none :: ([.fieldLink RX5 74 "UmbrellaLandModel$State" "shelters" "I", .fieldLink RX5 22 "UmbrellaLandModel$State" "told" "[I", .fieldLink RX5 19 "UmbrellaLandModel$State" "demand" "[I", .methodLink RX5 130 Lib.Math.min.name, .static Lib.Math.min.name, .initialized "java/lang/Math", .code Lib.Math.min.name Lib.Math.min.code 2 (some .int), .methodLink RX5 124 Lib.Math.max.name, .static Lib.Math.max.name, .code Lib.Math.max.name Lib.Math.max.code 2 (some .int)] ++ wsX50)
def wsX5_pass_r1 : List Cond := [Cond.fieldLink RX5 70 "UmbrellaLandModel$State" "hour" "I", Cond.fieldLink RX5 77 "UmbrellaLandModel$State" "umbrellas" "I", Cond.fieldLink RX5 34 "UmbrellaLandModel$State" "waits" "[I", Cond.fieldLink RX5 80 "UmbrellaLandModel$State" "citizens" "I", Cond.fieldLink RX5 46 "UmbrellaLandModel$State" "is" "[I", Cond.fieldLink RX5 43 "UmbrellaLandModel$State" "citizen" "[I", Cond.fieldLink RX5 3 "UmbrellaLandModel$State" "this$0" "LUmbrellaLandModel;", Cond.methodLink RX5 94 yX5_comeBack, Cond.instanceMethod yX5_comeBack, Cond.selects RX5 yX5_comeBack yX5_comeBack, Cond.initialized RX5, Cond.code yX5_comeBack cX5_comeBack 2 none, Cond.fieldLink RX5 28 "UmbrellaLandModel$State" "at" "[I", Cond.fieldLink RX5 25 "UmbrellaLandModel$State" "kind" "[I", Cond.fieldLink RX5 40 "UmbrellaLandModel$State" "from" "[I", Cond.fieldLink RX5 31 "UmbrellaLandModel$State" "wear" "[I", Cond.methodLink RX5 98 yX5_leave, Cond.instanceMethod yX5_leave, Cond.selects RX5 yX5_leave yX5_leave, Cond.code yX5_leave cX5_leave 6 (some .int), Cond.fieldLink RX5 37 "UmbrellaLandModel$State" "taken" "[I", Cond.fieldLink RX5 55 "UmbrellaLandModel$State" "holds" "[I", Cond.fieldLink RX5 61 "UmbrellaLandModel$State" "own" "[I", Cond.fieldLink RX5 22 "UmbrellaLandModel$State" "told" "[I"]
def wsX5_pass_r2 : List Cond := [Cond.fieldLink RX5 49 "UmbrellaLandModel$State" "to" "[I", Cond.fieldLink RX5 52 "UmbrellaLandModel$State" "left" "[I", Cond.fieldLink RX5 15 "UmbrellaLandModel$State" "place" "[I", Cond.methodLink RX5 119 Lib.Math.abs.name, Cond.static Lib.Math.abs.name, Cond.initialized "java/lang/Math", Cond.code Lib.Math.abs.name Lib.Math.abs.code 1 (some .int), Cond.methodLink RX5 124 Lib.Math.max.name, Cond.static Lib.Math.max.name, Cond.code Lib.Math.max.name Lib.Math.max.code 2 (some .int), Cond.methodLink RX5 115 yX5_wouldGet, Cond.instanceMethod yX5_wouldGet, Cond.selects RX5 yX5_wouldGet yX5_wouldGet, Cond.code yX5_wouldGet cX5_wouldGet 3 (some .boolean), Cond.fieldLink RX5 58 "UmbrellaLandModel$State" "trust" "[I", Cond.fieldLink RX5 19 "UmbrellaLandModel$State" "demand" "[I", Cond.methodLink RX5 90 yX5_first, Cond.instanceMethod yX5_first, Cond.selects RX5 yX5_first yX5_first, Cond.code yX5_first cX5_first 4 (some .int), Cond.methodLink RX5 105 yX5_walk, Cond.instanceMethod yX5_walk, Cond.selects RX5 yX5_walk yX5_walk, Cond.code yX5_walk cX5_walk 4 none]
def wsX5_pass_r3 : List Cond := [Cond.methodLink RX5 127 yX5_lay, Cond.instanceMethod yX5_lay, Cond.selects RX5 yX5_lay yX5_lay, Cond.code yX5_lay cX5_lay 4 none, Cond.methodLink RX5 130 Lib.Math.min.name, Cond.static Lib.Math.min.name, Cond.code Lib.Math.min.name Lib.Math.min.code 2 (some .int), Cond.methodLink RX5 109 yX5_cart, Cond.instanceMethod yX5_cart, Cond.selects RX5 yX5_cart yX5_cart, Cond.code yX5_cart cX5_cart 4 none, Cond.fieldLink RX5 74 "UmbrellaLandModel$State" "shelters" "I", Cond.fieldLink RX5 83 "UmbrellaLandModel$State" "carried" "I", Cond.methodLink RX5 133 yX5_there, Cond.instanceMethod yX5_there, Cond.selects RX5 yX5_there yX5_there, Cond.code yX5_there cX5_there 4 (some .int), Cond.methodLink RX5 112 yX5_decree, Cond.instanceMethod yX5_decree, Cond.selects RX5 yX5_decree yX5_decree, Cond.code yX5_decree cX5_decree 2 none]
def wsX5_pass : List Cond := .code yX5_pass cX5_pass 5 (some .int) :: ((wsX5_pass_r1 ++ (wsX5_pass_r2 ++ wsX5_pass_r3)) ++ wsX50 ++ wsX60)
def wsX5_of : List Cond := .code yX5_of cX5_of 4 (some .int) :: ([.fieldLink RX5 77 "UmbrellaLandModel$State" "umbrellas" "I", .fieldLink RX5 25 "UmbrellaLandModel$State" "kind" "[I"] ++ wsX50)
def wsX5_over : List Cond := .code yX5_over cX5_over 4 (some .int) :: ([.fieldLink RX5 80 "UmbrellaLandModel$State" "citizens" "I", .fieldLink RX5 61 "UmbrellaLandModel$State" "own" "[I", .fieldLink RX5 58 "UmbrellaLandModel$State" "trust" "[I", .fieldLink RX5 46 "UmbrellaLandModel$State" "is" "[I"] ++ wsX50)
def wsX6_init_r1 : List Cond := [Cond.methodLink RX6 1 objectInit, Cond.instanceMethod objectInit, Cond.code objectInit ⟨#[0xb1]⟩ 1 none, Cond.arrayClass .int, Cond.fieldLink RX6 9 "UmbrellaLandModel" "rain" "[I", Cond.classLink RX6 13 RX5, Cond.instantiable RX5 22, Cond.initialized RX5, Cond.fieldLink RX6 18 "UmbrellaLandModel" "s" "LUmbrellaLandModel$State;", Cond.fieldLink RX6 22 "UmbrellaLandModel" "ahead" "LUmbrellaLandModel$State;", Cond.instanceMethod yX5_init, Cond.code yX5_init cX5_init 2 none, Cond.fieldLink RX5 3 "UmbrellaLandModel$State" "this$0" "LUmbrellaLandModel;", Cond.methodLink RX5 9 objectInit, Cond.fieldLink RX5 15 "UmbrellaLandModel$State" "place" "[I", Cond.fieldLink RX5 19 "UmbrellaLandModel$State" "demand" "[I", Cond.fieldLink RX5 22 "UmbrellaLandModel$State" "told" "[I", Cond.fieldLink RX5 25 "UmbrellaLandModel$State" "kind" "[I", Cond.fieldLink RX5 28 "UmbrellaLandModel$State" "at" "[I", Cond.fieldLink RX5 31 "UmbrellaLandModel$State" "wear" "[I", Cond.fieldLink RX5 34 "UmbrellaLandModel$State" "waits" "[I", Cond.fieldLink RX5 37 "UmbrellaLandModel$State" "taken" "[I", Cond.fieldLink RX5 40 "UmbrellaLandModel$State" "from" "[I", Cond.fieldLink RX5 43 "UmbrellaLandModel$State" "citizen" "[I"]
def wsX6_init_r2 : List Cond := [Cond.fieldLink RX5 46 "UmbrellaLandModel$State" "is" "[I", Cond.fieldLink RX5 49 "UmbrellaLandModel$State" "to" "[I", Cond.fieldLink RX5 52 "UmbrellaLandModel$State" "left" "[I", Cond.fieldLink RX5 55 "UmbrellaLandModel$State" "holds" "[I", Cond.fieldLink RX5 58 "UmbrellaLandModel$State" "trust" "[I", Cond.fieldLink RX5 61 "UmbrellaLandModel$State" "own" "[I"]
def wsX6_init : List Cond := .code yX6_init cX6_init 1 none :: ((wsX6_init_r1 ++ wsX6_init_r2) ++ wsX60 ++ wsX50)
def wsX6_thrown : List Cond := .code yX6_thrown cX6_thrown 1 (some .int) :: ([.fieldLink RX6 25 "UmbrellaLandModel" "thrown" "I"] ++ wsX60)
def wsX6_no : List Cond := .code yX6_no cX6_no 2 (some .int) :: ([.fieldLink RX6 25 "UmbrellaLandModel" "thrown" "I"] ++ wsX60)
def wsX6_isIn : List Cond := .code yX6_isIn cX6_isIn 3 (some .boolean) :: ([])
def wsX6_isShelter : List Cond := .code yX6_isShelter cX6_isShelter 2 (some .boolean) :: ([.fieldLink RX6 18 "UmbrellaLandModel" "s" "LUmbrellaLandModel$State;", .methodLink RX6 32 yX6_isIn, .static yX6_isIn, .initialized RX6, .code yX6_isIn cX6_isIn 3 (some .boolean)] ++ wsX60 ++ wsX50)
def wsX6_isCitizen : List Cond := .code yX6_isCitizen cX6_isCitizen 2 (some .boolean) :: ([.fieldLink RX6 18 "UmbrellaLandModel" "s" "LUmbrellaLandModel$State;", .methodLink RX6 32 yX6_isIn, .static yX6_isIn, .initialized RX6, .code yX6_isIn cX6_isIn 3 (some .boolean)] ++ wsX60 ++ wsX50)
def wsX6_build : List Cond := .code yX6_build cX6_build 5 (some .int) :: ([.fieldLink RX6 25 "UmbrellaLandModel" "thrown" "I", .fieldLink RX6 18 "UmbrellaLandModel" "s" "LUmbrellaLandModel$State;", .methodLink RX6 32 yX6_isIn, .static yX6_isIn, .initialized RX6, .code yX6_isIn cX6_isIn 3 (some .boolean), .methodLink RX6 39 yX6_no, .instanceMethod yX6_no, .selects RX6 yX6_no yX6_no, .code yX6_no cX6_no 2 (some .int)] ++ wsX60 ++ wsX50)
def wsX6_bring_r1 : List Cond := [Cond.fieldLink RX6 25 "UmbrellaLandModel" "thrown" "I", Cond.fieldLink RX6 18 "UmbrellaLandModel" "s" "LUmbrellaLandModel$State;", Cond.methodLink RX6 49 yX6_isShelter, Cond.instanceMethod yX6_isShelter, Cond.selects RX6 yX6_isShelter yX6_isShelter, Cond.initialized RX6, Cond.code yX6_isShelter cX6_isShelter 2 (some .boolean), Cond.methodLink RX6 32 yX6_isIn, Cond.static yX6_isIn, Cond.code yX6_isIn cX6_isIn 3 (some .boolean), Cond.methodLink RX6 39 yX6_no, Cond.instanceMethod yX6_no, Cond.selects RX6 yX6_no yX6_no, Cond.code yX6_no cX6_no 2 (some .int), Cond.methodLink RX6 56 yX5_bring, Cond.instanceMethod yX5_bring, Cond.selects RX5 yX5_bring yX5_bring, Cond.initialized RX5, Cond.code yX5_bring cX5_bring 2 none, Cond.fieldLink RX5 25 "UmbrellaLandModel$State" "kind" "[I", Cond.fieldLink RX5 77 "UmbrellaLandModel$State" "umbrellas" "I", Cond.fieldLink RX5 28 "UmbrellaLandModel$State" "at" "[I", Cond.fieldLink RX5 31 "UmbrellaLandModel$State" "wear" "[I", Cond.fieldLink RX5 34 "UmbrellaLandModel$State" "waits" "[I"]
def wsX6_bring_r2 : List Cond := [Cond.fieldLink RX5 37 "UmbrellaLandModel$State" "taken" "[I", Cond.fieldLink RX5 40 "UmbrellaLandModel$State" "from" "[I"]
def wsX6_bring : List Cond := .code yX6_bring cX6_bring 4 (some .int) :: ((wsX6_bring_r1 ++ wsX6_bring_r2) ++ wsX60 ++ wsX50)
def wsX6_addCitizen : List Cond := .code yX6_addCitizen cX6_addCitizen 7 (some .int) :: ([.fieldLink RX6 25 "UmbrellaLandModel" "thrown" "I", .fieldLink RX6 18 "UmbrellaLandModel" "s" "LUmbrellaLandModel$State;", .arrayClass .int, .methodLink RX6 63 arraycopyName, .native arraycopyName, .static arraycopyName, .initialized "java/lang/System", .methodLink RX6 49 yX6_isShelter, .instanceMethod yX6_isShelter, .selects RX6 yX6_isShelter yX6_isShelter, .initialized RX6, .code yX6_isShelter cX6_isShelter 2 (some .boolean), .methodLink RX6 32 yX6_isIn, .static yX6_isIn, .code yX6_isIn cX6_isIn 3 (some .boolean), .methodLink RX6 39 yX6_no, .instanceMethod yX6_no, .selects RX6 yX6_no yX6_no, .code yX6_no cX6_no 2 (some .int)] ++ wsX60 ++ wsX50)
def wsX6_setRain : List Cond := .code yX6_setRain cX6_setRain 4 (some .int) :: ([.fieldLink RX6 25 "UmbrellaLandModel" "thrown" "I", .fieldLink RX6 9 "UmbrellaLandModel" "rain" "[I", .methodLink RX6 32 yX6_isIn, .static yX6_isIn, .initialized RX6, .code yX6_isIn cX6_isIn 3 (some .boolean), .methodLink RX6 39 yX6_no, .instanceMethod yX6_no, .selects RX6 yX6_no yX6_no, .code yX6_no cX6_no 2 (some .int)] ++ wsX60)
def wsX6_setDemand : List Cond := .code yX6_setDemand cX6_setDemand 4 (some .int) :: ([.fieldLink RX6 25 "UmbrellaLandModel" "thrown" "I", .fieldLink RX6 18 "UmbrellaLandModel" "s" "LUmbrellaLandModel$State;", .methodLink RX6 49 yX6_isShelter, .instanceMethod yX6_isShelter, .selects RX6 yX6_isShelter yX6_isShelter, .initialized RX6, .code yX6_isShelter cX6_isShelter 2 (some .boolean), .methodLink RX6 32 yX6_isIn, .static yX6_isIn, .code yX6_isIn cX6_isIn 3 (some .boolean), .methodLink RX6 39 yX6_no, .instanceMethod yX6_no, .selects RX6 yX6_no yX6_no, .code yX6_no cX6_no 2 (some .int)] ++ wsX60 ++ wsX50)
def wsX6_shelterTold : List Cond := .code yX6_shelterTold cX6_shelterTold 5 (some .int) :: ([.fieldLink RX6 18 "UmbrellaLandModel" "s" "LUmbrellaLandModel$State;", .arrayClass .int, .methodLink RX6 78 yX5_there, .instanceMethod yX5_there, .selects RX5 yX5_there yX5_there, .initialized RX5, .code yX5_there cX5_there 4 (some .int), .fieldLink RX5 77 "UmbrellaLandModel$State" "umbrellas" "I", .fieldLink RX5 25 "UmbrellaLandModel$State" "kind" "[I", .fieldLink RX5 28 "UmbrellaLandModel$State" "at" "[I", .methodLink RX6 84 yX5_first, .instanceMethod yX5_first, .selects RX5 yX5_first yX5_first, .code yX5_first cX5_first 4 (some .int), .fieldLink RX5 31 "UmbrellaLandModel$State" "wear" "[I"] ++ wsX60 ++ wsX50)
def wsX6_shelter_r1 : List Cond := [Cond.fieldLink RX6 25 "UmbrellaLandModel" "thrown" "I", Cond.methodLink RX6 49 yX6_isShelter, Cond.instanceMethod yX6_isShelter, Cond.selects RX6 yX6_isShelter yX6_isShelter, Cond.initialized RX6, Cond.code yX6_isShelter cX6_isShelter 2 (some .boolean), Cond.fieldLink RX6 18 "UmbrellaLandModel" "s" "LUmbrellaLandModel$State;", Cond.methodLink RX6 32 yX6_isIn, Cond.static yX6_isIn, Cond.code yX6_isIn cX6_isIn 3 (some .boolean), Cond.methodLink RX6 87 yX6_shelterTold, Cond.instanceMethod yX6_shelterTold, Cond.selects RX6 yX6_shelterTold yX6_shelterTold, Cond.code yX6_shelterTold cX6_shelterTold 5 (some .int), Cond.arrayClass .int, Cond.methodLink RX6 78 yX5_there, Cond.instanceMethod yX5_there, Cond.selects RX5 yX5_there yX5_there, Cond.initialized RX5, Cond.code yX5_there cX5_there 4 (some .int), Cond.fieldLink RX5 77 "UmbrellaLandModel$State" "umbrellas" "I", Cond.fieldLink RX5 25 "UmbrellaLandModel$State" "kind" "[I", Cond.fieldLink RX5 28 "UmbrellaLandModel$State" "at" "[I", Cond.methodLink RX6 84 yX5_first]
def wsX6_shelter_r2 : List Cond := [Cond.instanceMethod yX5_first, Cond.selects RX5 yX5_first yX5_first, Cond.code yX5_first cX5_first 4 (some .int), Cond.fieldLink RX5 31 "UmbrellaLandModel$State" "wear" "[I", Cond.methodLink RX6 39 yX6_no, Cond.instanceMethod yX6_no, Cond.selects RX6 yX6_no yX6_no, Cond.code yX6_no cX6_no 2 (some .int)]
def wsX6_shelter : List Cond := .code yX6_shelter cX6_shelter 3 (some .int) :: ((wsX6_shelter_r1 ++ wsX6_shelter_r2) ++ wsX60 ++ wsX50)
def wsX6_umbrellaTold : List Cond := .code yX6_umbrellaTold cX6_umbrellaTold 4 (some .int) :: ([.arrayClass .int, .fieldLink RX6 18 "UmbrellaLandModel" "s" "LUmbrellaLandModel$State;"] ++ wsX60 ++ wsX50)
def wsX6_umbrella : List Cond := .code yX6_umbrella cX6_umbrella 3 (some .int) :: ([.fieldLink RX6 25 "UmbrellaLandModel" "thrown" "I", .fieldLink RX6 18 "UmbrellaLandModel" "s" "LUmbrellaLandModel$State;", .methodLink RX6 32 yX6_isIn, .static yX6_isIn, .initialized RX6, .code yX6_isIn cX6_isIn 3 (some .boolean), .methodLink RX6 109 yX6_umbrellaTold, .instanceMethod yX6_umbrellaTold, .selects RX6 yX6_umbrellaTold yX6_umbrellaTold, .code yX6_umbrellaTold cX6_umbrellaTold 4 (some .int), .arrayClass .int, .methodLink RX6 39 yX6_no, .instanceMethod yX6_no, .selects RX6 yX6_no yX6_no, .code yX6_no cX6_no 2 (some .int)] ++ wsX60 ++ wsX50)
def wsX6_citizenTold : List Cond := .code yX6_citizenTold cX6_citizenTold 4 (some .int) :: ([.arrayClass .int, .fieldLink RX6 18 "UmbrellaLandModel" "s" "LUmbrellaLandModel$State;"] ++ wsX60 ++ wsX50)
def wsX6_citizen : List Cond := .code yX6_citizen cX6_citizen 3 (some .int) :: ([.fieldLink RX6 25 "UmbrellaLandModel" "thrown" "I", .methodLink RX6 118 yX6_isCitizen, .instanceMethod yX6_isCitizen, .selects RX6 yX6_isCitizen yX6_isCitizen, .initialized RX6, .code yX6_isCitizen cX6_isCitizen 2 (some .boolean), .fieldLink RX6 18 "UmbrellaLandModel" "s" "LUmbrellaLandModel$State;", .methodLink RX6 32 yX6_isIn, .static yX6_isIn, .code yX6_isIn cX6_isIn 3 (some .boolean), .methodLink RX6 121 yX6_citizenTold, .instanceMethod yX6_citizenTold, .selects RX6 yX6_citizenTold yX6_citizenTold, .code yX6_citizenTold cX6_citizenTold 4 (some .int), .arrayClass .int, .methodLink RX6 39 yX6_no, .instanceMethod yX6_no, .selects RX6 yX6_no yX6_no, .code yX6_no cX6_no 2 (some .int)] ++ wsX60 ++ wsX50)
def wsX6_counted : List Cond := .code yX6_counted cX6_counted 3 (some .int) :: ([.arrayClass .int, .fieldLink RX6 18 "UmbrellaLandModel" "s" "LUmbrellaLandModel$State;", .methodLink RX6 127 yX5_of, .instanceMethod yX5_of, .selects RX5 yX5_of yX5_of, .initialized RX5, .code yX5_of cX5_of 4 (some .int), .fieldLink RX5 77 "UmbrellaLandModel$State" "umbrellas" "I", .fieldLink RX5 25 "UmbrellaLandModel$State" "kind" "[I", .methodLink RX6 130 yX5_over, .instanceMethod yX5_over, .selects RX5 yX5_over yX5_over, .code yX5_over cX5_over 4 (some .int), .fieldLink RX5 80 "UmbrellaLandModel$State" "citizens" "I", .fieldLink RX5 61 "UmbrellaLandModel$State" "own" "[I", .fieldLink RX5 58 "UmbrellaLandModel$State" "trust" "[I", .fieldLink RX5 46 "UmbrellaLandModel$State" "is" "[I"] ++ wsX60 ++ wsX50)
def wsX6_count_r1 : List Cond := [Cond.fieldLink RX6 25 "UmbrellaLandModel" "thrown" "I", Cond.methodLink RX6 32 yX6_isIn, Cond.static yX6_isIn, Cond.initialized RX6, Cond.code yX6_isIn cX6_isIn 3 (some .boolean), Cond.methodLink RX6 136 yX6_counted, Cond.instanceMethod yX6_counted, Cond.selects RX6 yX6_counted yX6_counted, Cond.code yX6_counted cX6_counted 3 (some .int), Cond.arrayClass .int, Cond.fieldLink RX6 18 "UmbrellaLandModel" "s" "LUmbrellaLandModel$State;", Cond.methodLink RX6 127 yX5_of, Cond.instanceMethod yX5_of, Cond.selects RX5 yX5_of yX5_of, Cond.initialized RX5, Cond.code yX5_of cX5_of 4 (some .int), Cond.fieldLink RX5 77 "UmbrellaLandModel$State" "umbrellas" "I", Cond.fieldLink RX5 25 "UmbrellaLandModel$State" "kind" "[I", Cond.methodLink RX6 130 yX5_over, Cond.instanceMethod yX5_over, Cond.selects RX5 yX5_over yX5_over, Cond.code yX5_over cX5_over 4 (some .int), Cond.fieldLink RX5 80 "UmbrellaLandModel$State" "citizens" "I", Cond.fieldLink RX5 61 "UmbrellaLandModel$State" "own" "[I"]
def wsX6_count_r2 : List Cond := [Cond.fieldLink RX5 58 "UmbrellaLandModel$State" "trust" "[I", Cond.fieldLink RX5 46 "UmbrellaLandModel$State" "is" "[I", Cond.methodLink RX6 39 yX6_no, Cond.instanceMethod yX6_no, Cond.selects RX6 yX6_no yX6_no, Cond.code yX6_no cX6_no 2 (some .int)]
def wsX6_count : List Cond := .code yX6_count cX6_count 2 (some .int) :: ((wsX6_count_r1 ++ wsX6_count_r2) ++ wsX60 ++ wsX50)
def wsX6_pass_r1 : List Cond := [Cond.methodLink RX6 139 yX5_pass, Cond.instanceMethod yX5_pass, Cond.selects RX5 yX5_pass yX5_pass, Cond.initialized RX5, Cond.code yX5_pass cX5_pass 5 (some .int), Cond.fieldLink RX5 70 "UmbrellaLandModel$State" "hour" "I", Cond.fieldLink RX5 77 "UmbrellaLandModel$State" "umbrellas" "I", Cond.fieldLink RX5 34 "UmbrellaLandModel$State" "waits" "[I", Cond.fieldLink RX5 80 "UmbrellaLandModel$State" "citizens" "I", Cond.fieldLink RX5 46 "UmbrellaLandModel$State" "is" "[I", Cond.fieldLink RX5 43 "UmbrellaLandModel$State" "citizen" "[I", Cond.fieldLink RX5 3 "UmbrellaLandModel$State" "this$0" "LUmbrellaLandModel;", Cond.methodLink RX5 94 yX5_comeBack, Cond.instanceMethod yX5_comeBack, Cond.selects RX5 yX5_comeBack yX5_comeBack, Cond.code yX5_comeBack cX5_comeBack 2 none, Cond.fieldLink RX5 28 "UmbrellaLandModel$State" "at" "[I", Cond.fieldLink RX5 25 "UmbrellaLandModel$State" "kind" "[I", Cond.fieldLink RX5 40 "UmbrellaLandModel$State" "from" "[I", Cond.fieldLink RX5 31 "UmbrellaLandModel$State" "wear" "[I", Cond.methodLink RX5 98 yX5_leave, Cond.instanceMethod yX5_leave, Cond.selects RX5 yX5_leave yX5_leave, Cond.code yX5_leave cX5_leave 6 (some .int)]
def wsX6_pass_r2 : List Cond := [Cond.fieldLink RX5 37 "UmbrellaLandModel$State" "taken" "[I", Cond.fieldLink RX5 55 "UmbrellaLandModel$State" "holds" "[I", Cond.fieldLink RX5 61 "UmbrellaLandModel$State" "own" "[I", Cond.fieldLink RX5 22 "UmbrellaLandModel$State" "told" "[I", Cond.fieldLink RX5 49 "UmbrellaLandModel$State" "to" "[I", Cond.fieldLink RX5 52 "UmbrellaLandModel$State" "left" "[I", Cond.fieldLink RX5 15 "UmbrellaLandModel$State" "place" "[I", Cond.methodLink RX5 119 Lib.Math.abs.name, Cond.static Lib.Math.abs.name, Cond.initialized "java/lang/Math", Cond.code Lib.Math.abs.name Lib.Math.abs.code 1 (some .int), Cond.methodLink RX5 124 Lib.Math.max.name, Cond.static Lib.Math.max.name, Cond.code Lib.Math.max.name Lib.Math.max.code 2 (some .int), Cond.methodLink RX5 115 yX5_wouldGet, Cond.instanceMethod yX5_wouldGet, Cond.selects RX5 yX5_wouldGet yX5_wouldGet, Cond.code yX5_wouldGet cX5_wouldGet 3 (some .boolean), Cond.fieldLink RX5 58 "UmbrellaLandModel$State" "trust" "[I", Cond.fieldLink RX5 19 "UmbrellaLandModel$State" "demand" "[I", Cond.methodLink RX5 90 yX5_first, Cond.instanceMethod yX5_first, Cond.selects RX5 yX5_first yX5_first, Cond.code yX5_first cX5_first 4 (some .int)]
def wsX6_pass_r3 : List Cond := [Cond.methodLink RX5 105 yX5_walk, Cond.instanceMethod yX5_walk, Cond.selects RX5 yX5_walk yX5_walk, Cond.code yX5_walk cX5_walk 4 none, Cond.methodLink RX5 127 yX5_lay, Cond.instanceMethod yX5_lay, Cond.selects RX5 yX5_lay yX5_lay, Cond.code yX5_lay cX5_lay 4 none, Cond.methodLink RX5 130 Lib.Math.min.name, Cond.static Lib.Math.min.name, Cond.code Lib.Math.min.name Lib.Math.min.code 2 (some .int), Cond.methodLink RX5 109 yX5_cart, Cond.instanceMethod yX5_cart, Cond.selects RX5 yX5_cart yX5_cart, Cond.code yX5_cart cX5_cart 4 none, Cond.fieldLink RX5 74 "UmbrellaLandModel$State" "shelters" "I", Cond.fieldLink RX5 83 "UmbrellaLandModel$State" "carried" "I", Cond.methodLink RX5 133 yX5_there, Cond.instanceMethod yX5_there, Cond.selects RX5 yX5_there yX5_there, Cond.code yX5_there cX5_there 4 (some .int), Cond.methodLink RX5 112 yX5_decree, Cond.instanceMethod yX5_decree, Cond.selects RX5 yX5_decree yX5_decree]
def wsX6_pass_r4 : List Cond := [Cond.code yX5_decree cX5_decree 2 none]
def wsX6_pass : List Cond := .code yX6_pass cX6_pass 4 (some .int) :: ((wsX6_pass_r1 ++ (wsX6_pass_r2 ++ (wsX6_pass_r3 ++ wsX6_pass_r4))) ++ wsX50 ++ wsX60)
def wsX6_pass__r1 : List Cond := [Cond.fieldLink RX6 25 "UmbrellaLandModel" "thrown" "I", Cond.fieldLink RX6 18 "UmbrellaLandModel" "s" "LUmbrellaLandModel$State;", Cond.methodLink RX6 32 yX6_isIn, Cond.static yX6_isIn, Cond.initialized RX6, Cond.code yX6_isIn cX6_isIn 3 (some .boolean), Cond.methodLink RX6 143 yX6_pass, Cond.static yX6_pass, Cond.code yX6_pass cX6_pass 4 (some .int), Cond.methodLink RX6 139 yX5_pass, Cond.instanceMethod yX5_pass, Cond.selects RX5 yX5_pass yX5_pass, Cond.initialized RX5, Cond.code yX5_pass cX5_pass 5 (some .int), Cond.fieldLink RX5 70 "UmbrellaLandModel$State" "hour" "I", Cond.fieldLink RX5 77 "UmbrellaLandModel$State" "umbrellas" "I", Cond.fieldLink RX5 34 "UmbrellaLandModel$State" "waits" "[I", Cond.fieldLink RX5 80 "UmbrellaLandModel$State" "citizens" "I", Cond.fieldLink RX5 46 "UmbrellaLandModel$State" "is" "[I", Cond.fieldLink RX5 43 "UmbrellaLandModel$State" "citizen" "[I", Cond.fieldLink RX5 3 "UmbrellaLandModel$State" "this$0" "LUmbrellaLandModel;", Cond.methodLink RX5 94 yX5_comeBack, Cond.instanceMethod yX5_comeBack, Cond.selects RX5 yX5_comeBack yX5_comeBack]
def wsX6_pass__r2 : List Cond := [Cond.code yX5_comeBack cX5_comeBack 2 none, Cond.fieldLink RX5 28 "UmbrellaLandModel$State" "at" "[I", Cond.fieldLink RX5 25 "UmbrellaLandModel$State" "kind" "[I", Cond.fieldLink RX5 40 "UmbrellaLandModel$State" "from" "[I", Cond.fieldLink RX5 31 "UmbrellaLandModel$State" "wear" "[I", Cond.methodLink RX5 98 yX5_leave, Cond.instanceMethod yX5_leave, Cond.selects RX5 yX5_leave yX5_leave, Cond.code yX5_leave cX5_leave 6 (some .int), Cond.fieldLink RX5 37 "UmbrellaLandModel$State" "taken" "[I", Cond.fieldLink RX5 55 "UmbrellaLandModel$State" "holds" "[I", Cond.fieldLink RX5 61 "UmbrellaLandModel$State" "own" "[I", Cond.fieldLink RX5 22 "UmbrellaLandModel$State" "told" "[I", Cond.fieldLink RX5 49 "UmbrellaLandModel$State" "to" "[I", Cond.fieldLink RX5 52 "UmbrellaLandModel$State" "left" "[I", Cond.fieldLink RX5 15 "UmbrellaLandModel$State" "place" "[I", Cond.methodLink RX5 119 Lib.Math.abs.name, Cond.static Lib.Math.abs.name, Cond.initialized "java/lang/Math", Cond.code Lib.Math.abs.name Lib.Math.abs.code 1 (some .int), Cond.methodLink RX5 124 Lib.Math.max.name, Cond.static Lib.Math.max.name, Cond.code Lib.Math.max.name Lib.Math.max.code 2 (some .int), Cond.methodLink RX5 115 yX5_wouldGet]
def wsX6_pass__r3 : List Cond := [Cond.instanceMethod yX5_wouldGet, Cond.selects RX5 yX5_wouldGet yX5_wouldGet, Cond.code yX5_wouldGet cX5_wouldGet 3 (some .boolean), Cond.fieldLink RX5 58 "UmbrellaLandModel$State" "trust" "[I", Cond.fieldLink RX5 19 "UmbrellaLandModel$State" "demand" "[I", Cond.methodLink RX5 90 yX5_first, Cond.instanceMethod yX5_first, Cond.selects RX5 yX5_first yX5_first, Cond.code yX5_first cX5_first 4 (some .int), Cond.methodLink RX5 105 yX5_walk, Cond.instanceMethod yX5_walk, Cond.selects RX5 yX5_walk yX5_walk, Cond.code yX5_walk cX5_walk 4 none, Cond.methodLink RX5 127 yX5_lay, Cond.instanceMethod yX5_lay, Cond.selects RX5 yX5_lay yX5_lay, Cond.code yX5_lay cX5_lay 4 none, Cond.methodLink RX5 130 Lib.Math.min.name, Cond.static Lib.Math.min.name, Cond.code Lib.Math.min.name Lib.Math.min.code 2 (some .int), Cond.methodLink RX5 109 yX5_cart, Cond.instanceMethod yX5_cart, Cond.selects RX5 yX5_cart yX5_cart, Cond.code yX5_cart cX5_cart 4 none]
def wsX6_pass__r4 : List Cond := [Cond.fieldLink RX5 74 "UmbrellaLandModel$State" "shelters" "I", Cond.fieldLink RX5 83 "UmbrellaLandModel$State" "carried" "I", Cond.methodLink RX5 133 yX5_there, Cond.instanceMethod yX5_there, Cond.selects RX5 yX5_there yX5_there, Cond.code yX5_there cX5_there 4 (some .int), Cond.methodLink RX5 112 yX5_decree, Cond.instanceMethod yX5_decree, Cond.selects RX5 yX5_decree yX5_decree, Cond.code yX5_decree cX5_decree 2 none, Cond.methodLink RX6 39 yX6_no, Cond.instanceMethod yX6_no, Cond.selects RX6 yX6_no yX6_no, Cond.code yX6_no cX6_no 2 (some .int)]
def wsX6_pass_ : List Cond := .code yX6_pass_ cX6_pass_ 2 (some .int) :: ((wsX6_pass__r1 ++ (wsX6_pass__r2 ++ (wsX6_pass__r3 ++ wsX6_pass__r4))) ++ wsX60 ++ wsX50)
def wsX6_foresee_r1 : List Cond := [Cond.fieldLink RX6 25 "UmbrellaLandModel" "thrown" "I", Cond.fieldLink RX6 22 "UmbrellaLandModel" "ahead" "LUmbrellaLandModel$State;", Cond.fieldLink RX6 18 "UmbrellaLandModel" "s" "LUmbrellaLandModel$State;", Cond.methodLink RX6 32 yX6_isIn, Cond.static yX6_isIn, Cond.initialized RX6, Cond.code yX6_isIn cX6_isIn 3 (some .boolean), Cond.methodLink RX6 39 yX6_no, Cond.instanceMethod yX6_no, Cond.selects RX6 yX6_no yX6_no, Cond.code yX6_no cX6_no 2 (some .int), Cond.methodLink RX6 146 yX5_become, Cond.instanceMethod yX5_become, Cond.selects RX5 yX5_become yX5_become, Cond.initialized RX5, Cond.code yX5_become cX5_become 2 none, Cond.fieldLink RX5 70 "UmbrellaLandModel$State" "hour" "I", Cond.fieldLink RX5 74 "UmbrellaLandModel$State" "shelters" "I", Cond.fieldLink RX5 77 "UmbrellaLandModel$State" "umbrellas" "I", Cond.fieldLink RX5 80 "UmbrellaLandModel$State" "citizens" "I", Cond.fieldLink RX5 83 "UmbrellaLandModel$State" "carried" "I", Cond.fieldLink RX5 15 "UmbrellaLandModel$State" "place" "[I", Cond.fieldLink RX5 19 "UmbrellaLandModel$State" "demand" "[I", Cond.fieldLink RX5 22 "UmbrellaLandModel$State" "told" "[I"]
def wsX6_foresee_r2 : List Cond := [Cond.fieldLink RX5 25 "UmbrellaLandModel$State" "kind" "[I", Cond.fieldLink RX5 28 "UmbrellaLandModel$State" "at" "[I", Cond.fieldLink RX5 31 "UmbrellaLandModel$State" "wear" "[I", Cond.fieldLink RX5 34 "UmbrellaLandModel$State" "waits" "[I", Cond.fieldLink RX5 37 "UmbrellaLandModel$State" "taken" "[I", Cond.fieldLink RX5 40 "UmbrellaLandModel$State" "from" "[I", Cond.fieldLink RX5 43 "UmbrellaLandModel$State" "citizen" "[I", Cond.fieldLink RX5 46 "UmbrellaLandModel$State" "is" "[I", Cond.fieldLink RX5 49 "UmbrellaLandModel$State" "to" "[I", Cond.fieldLink RX5 52 "UmbrellaLandModel$State" "left" "[I", Cond.fieldLink RX5 55 "UmbrellaLandModel$State" "holds" "[I", Cond.fieldLink RX5 58 "UmbrellaLandModel$State" "trust" "[I", Cond.fieldLink RX5 61 "UmbrellaLandModel$State" "own" "[I", Cond.methodLink RX5 86 yX5_copy, Cond.instanceMethod yX5_copy, Cond.selects RX5 yX5_copy yX5_copy, Cond.code yX5_copy cX5_copy 3 none, Cond.methodLink RX5 64 arraycopyName, Cond.native arraycopyName, Cond.static arraycopyName, Cond.initialized "java/lang/System", Cond.methodLink RX6 143 yX6_pass, Cond.static yX6_pass, Cond.code yX6_pass cX6_pass 4 (some .int)]
def wsX6_foresee_r3 : List Cond := [Cond.methodLink RX6 139 yX5_pass, Cond.instanceMethod yX5_pass, Cond.selects RX5 yX5_pass yX5_pass, Cond.code yX5_pass cX5_pass 5 (some .int), Cond.fieldLink RX5 3 "UmbrellaLandModel$State" "this$0" "LUmbrellaLandModel;", Cond.methodLink RX5 94 yX5_comeBack, Cond.instanceMethod yX5_comeBack, Cond.selects RX5 yX5_comeBack yX5_comeBack, Cond.code yX5_comeBack cX5_comeBack 2 none, Cond.methodLink RX5 98 yX5_leave, Cond.instanceMethod yX5_leave, Cond.selects RX5 yX5_leave yX5_leave, Cond.code yX5_leave cX5_leave 6 (some .int), Cond.methodLink RX5 119 Lib.Math.abs.name, Cond.static Lib.Math.abs.name, Cond.initialized "java/lang/Math", Cond.code Lib.Math.abs.name Lib.Math.abs.code 1 (some .int), Cond.methodLink RX5 124 Lib.Math.max.name, Cond.static Lib.Math.max.name, Cond.code Lib.Math.max.name Lib.Math.max.code 2 (some .int), Cond.methodLink RX5 115 yX5_wouldGet, Cond.instanceMethod yX5_wouldGet, Cond.selects RX5 yX5_wouldGet yX5_wouldGet, Cond.code yX5_wouldGet cX5_wouldGet 3 (some .boolean)]
def wsX6_foresee_r4 : List Cond := [Cond.methodLink RX5 90 yX5_first, Cond.instanceMethod yX5_first, Cond.selects RX5 yX5_first yX5_first, Cond.code yX5_first cX5_first 4 (some .int), Cond.methodLink RX5 105 yX5_walk, Cond.instanceMethod yX5_walk, Cond.selects RX5 yX5_walk yX5_walk, Cond.code yX5_walk cX5_walk 4 none, Cond.methodLink RX5 127 yX5_lay, Cond.instanceMethod yX5_lay, Cond.selects RX5 yX5_lay yX5_lay, Cond.code yX5_lay cX5_lay 4 none, Cond.methodLink RX5 130 Lib.Math.min.name, Cond.static Lib.Math.min.name, Cond.code Lib.Math.min.name Lib.Math.min.code 2 (some .int), Cond.methodLink RX5 109 yX5_cart, Cond.instanceMethod yX5_cart, Cond.selects RX5 yX5_cart yX5_cart, Cond.code yX5_cart cX5_cart 4 none, Cond.methodLink RX5 133 yX5_there, Cond.instanceMethod yX5_there, Cond.selects RX5 yX5_there yX5_there, Cond.code yX5_there cX5_there 4 (some .int), Cond.methodLink RX5 112 yX5_decree]
def wsX6_foresee_r5 : List Cond := [Cond.instanceMethod yX5_decree, Cond.selects RX5 yX5_decree yX5_decree, Cond.code yX5_decree cX5_decree 2 none, Cond.methodLink RX6 130 yX5_over, Cond.instanceMethod yX5_over, Cond.selects RX5 yX5_over yX5_over, Cond.code yX5_over cX5_over 4 (some .int), Cond.methodLink RX6 127 yX5_of, Cond.instanceMethod yX5_of, Cond.selects RX5 yX5_of yX5_of, Cond.code yX5_of cX5_of 4 (some .int)]
def wsX6_foresee : List Cond := .code yX6_foresee cX6_foresee 3 (some .int) :: ((wsX6_foresee_r1 ++ (wsX6_foresee_r2 ++ (wsX6_foresee_r3 ++ (wsX6_foresee_r4 ++ wsX6_foresee_r5)))) ++ wsX60 ++ wsX50)
def wsX6_advise_r1 : List Cond := [Cond.fieldLink RX6 25 "UmbrellaLandModel" "thrown" "I", Cond.fieldLink RX6 18 "UmbrellaLandModel" "s" "LUmbrellaLandModel$State;", Cond.fieldLink RX6 22 "UmbrellaLandModel" "ahead" "LUmbrellaLandModel$State;", Cond.methodLink RX6 32 yX6_isIn, Cond.static yX6_isIn, Cond.initialized RX6, Cond.code yX6_isIn cX6_isIn 3 (some .boolean), Cond.methodLink RX6 39 yX6_no, Cond.instanceMethod yX6_no, Cond.selects RX6 yX6_no yX6_no, Cond.code yX6_no cX6_no 2 (some .int), Cond.methodLink RX6 146 yX5_become, Cond.instanceMethod yX5_become, Cond.selects RX5 yX5_become yX5_become, Cond.initialized RX5, Cond.code yX5_become cX5_become 2 none, Cond.fieldLink RX5 70 "UmbrellaLandModel$State" "hour" "I", Cond.fieldLink RX5 74 "UmbrellaLandModel$State" "shelters" "I", Cond.fieldLink RX5 77 "UmbrellaLandModel$State" "umbrellas" "I", Cond.fieldLink RX5 80 "UmbrellaLandModel$State" "citizens" "I", Cond.fieldLink RX5 83 "UmbrellaLandModel$State" "carried" "I", Cond.fieldLink RX5 15 "UmbrellaLandModel$State" "place" "[I", Cond.fieldLink RX5 19 "UmbrellaLandModel$State" "demand" "[I", Cond.fieldLink RX5 22 "UmbrellaLandModel$State" "told" "[I"]
def wsX6_advise_r2 : List Cond := [Cond.fieldLink RX5 25 "UmbrellaLandModel$State" "kind" "[I", Cond.fieldLink RX5 28 "UmbrellaLandModel$State" "at" "[I", Cond.fieldLink RX5 31 "UmbrellaLandModel$State" "wear" "[I", Cond.fieldLink RX5 34 "UmbrellaLandModel$State" "waits" "[I", Cond.fieldLink RX5 37 "UmbrellaLandModel$State" "taken" "[I", Cond.fieldLink RX5 40 "UmbrellaLandModel$State" "from" "[I", Cond.fieldLink RX5 43 "UmbrellaLandModel$State" "citizen" "[I", Cond.fieldLink RX5 46 "UmbrellaLandModel$State" "is" "[I", Cond.fieldLink RX5 49 "UmbrellaLandModel$State" "to" "[I", Cond.fieldLink RX5 52 "UmbrellaLandModel$State" "left" "[I", Cond.fieldLink RX5 55 "UmbrellaLandModel$State" "holds" "[I", Cond.fieldLink RX5 58 "UmbrellaLandModel$State" "trust" "[I", Cond.fieldLink RX5 61 "UmbrellaLandModel$State" "own" "[I", Cond.methodLink RX5 86 yX5_copy, Cond.instanceMethod yX5_copy, Cond.selects RX5 yX5_copy yX5_copy, Cond.code yX5_copy cX5_copy 3 none, Cond.methodLink RX5 64 arraycopyName, Cond.native arraycopyName, Cond.static arraycopyName, Cond.initialized "java/lang/System", Cond.methodLink RX6 143 yX6_pass, Cond.static yX6_pass, Cond.code yX6_pass cX6_pass 4 (some .int)]
def wsX6_advise_r3 : List Cond := [Cond.methodLink RX6 139 yX5_pass, Cond.instanceMethod yX5_pass, Cond.selects RX5 yX5_pass yX5_pass, Cond.code yX5_pass cX5_pass 5 (some .int), Cond.fieldLink RX5 3 "UmbrellaLandModel$State" "this$0" "LUmbrellaLandModel;", Cond.methodLink RX5 94 yX5_comeBack, Cond.instanceMethod yX5_comeBack, Cond.selects RX5 yX5_comeBack yX5_comeBack, Cond.code yX5_comeBack cX5_comeBack 2 none, Cond.methodLink RX5 98 yX5_leave, Cond.instanceMethod yX5_leave, Cond.selects RX5 yX5_leave yX5_leave, Cond.code yX5_leave cX5_leave 6 (some .int), Cond.methodLink RX5 119 Lib.Math.abs.name, Cond.static Lib.Math.abs.name, Cond.initialized "java/lang/Math", Cond.code Lib.Math.abs.name Lib.Math.abs.code 1 (some .int), Cond.methodLink RX5 124 Lib.Math.max.name, Cond.static Lib.Math.max.name, Cond.code Lib.Math.max.name Lib.Math.max.code 2 (some .int), Cond.methodLink RX5 115 yX5_wouldGet, Cond.instanceMethod yX5_wouldGet, Cond.selects RX5 yX5_wouldGet yX5_wouldGet, Cond.code yX5_wouldGet cX5_wouldGet 3 (some .boolean)]
def wsX6_advise_r4 : List Cond := [Cond.methodLink RX5 90 yX5_first, Cond.instanceMethod yX5_first, Cond.selects RX5 yX5_first yX5_first, Cond.code yX5_first cX5_first 4 (some .int), Cond.methodLink RX5 105 yX5_walk, Cond.instanceMethod yX5_walk, Cond.selects RX5 yX5_walk yX5_walk, Cond.code yX5_walk cX5_walk 4 none, Cond.methodLink RX5 127 yX5_lay, Cond.instanceMethod yX5_lay, Cond.selects RX5 yX5_lay yX5_lay, Cond.code yX5_lay cX5_lay 4 none, Cond.methodLink RX5 130 Lib.Math.min.name, Cond.static Lib.Math.min.name, Cond.code Lib.Math.min.name Lib.Math.min.code 2 (some .int), Cond.methodLink RX5 109 yX5_cart, Cond.instanceMethod yX5_cart, Cond.selects RX5 yX5_cart yX5_cart, Cond.code yX5_cart cX5_cart 4 none, Cond.methodLink RX5 133 yX5_there, Cond.instanceMethod yX5_there, Cond.selects RX5 yX5_there yX5_there, Cond.code yX5_there cX5_there 4 (some .int), Cond.methodLink RX5 112 yX5_decree]
def wsX6_advise_r5 : List Cond := [Cond.instanceMethod yX5_decree, Cond.selects RX5 yX5_decree yX5_decree, Cond.code yX5_decree cX5_decree 2 none, Cond.methodLink RX6 130 yX5_over, Cond.instanceMethod yX5_over, Cond.selects RX5 yX5_over yX5_over, Cond.code yX5_over cX5_over 4 (some .int), Cond.methodLink RX6 56 yX5_bring, Cond.instanceMethod yX5_bring, Cond.selects RX5 yX5_bring yX5_bring, Cond.code yX5_bring cX5_bring 2 none]
def wsX6_advise : List Cond := .code yX6_advise cX6_advise 5 (some .int) :: ((wsX6_advise_r1 ++ (wsX6_advise_r2 ++ (wsX6_advise_r3 ++ (wsX6_advise_r4 ++ wsX6_advise_r5)))) ++ wsX60 ++ wsX50)
def wsX6_wouldGet_r1 : List Cond := [Cond.fieldLink RX6 25 "UmbrellaLandModel" "thrown" "I", Cond.fieldLink RX6 18 "UmbrellaLandModel" "s" "LUmbrellaLandModel$State;", Cond.methodLink RX6 118 yX6_isCitizen, Cond.instanceMethod yX6_isCitizen, Cond.selects RX6 yX6_isCitizen yX6_isCitizen, Cond.initialized RX6, Cond.code yX6_isCitizen cX6_isCitizen 2 (some .boolean), Cond.methodLink RX6 32 yX6_isIn, Cond.static yX6_isIn, Cond.code yX6_isIn cX6_isIn 3 (some .boolean), Cond.methodLink RX6 49 yX6_isShelter, Cond.instanceMethod yX6_isShelter, Cond.selects RX6 yX6_isShelter yX6_isShelter, Cond.code yX6_isShelter cX6_isShelter 2 (some .boolean), Cond.methodLink RX6 150 yX5_wouldGet, Cond.instanceMethod yX5_wouldGet, Cond.selects RX5 yX5_wouldGet yX5_wouldGet, Cond.initialized RX5, Cond.code yX5_wouldGet cX5_wouldGet 3 (some .boolean), Cond.fieldLink RX5 58 "UmbrellaLandModel$State" "trust" "[I", Cond.fieldLink RX5 19 "UmbrellaLandModel$State" "demand" "[I", Cond.methodLink RX5 90 yX5_first, Cond.instanceMethod yX5_first, Cond.selects RX5 yX5_first yX5_first]
def wsX6_wouldGet_r2 : List Cond := [Cond.code yX5_first cX5_first 4 (some .int), Cond.fieldLink RX5 77 "UmbrellaLandModel$State" "umbrellas" "I", Cond.fieldLink RX5 25 "UmbrellaLandModel$State" "kind" "[I", Cond.fieldLink RX5 28 "UmbrellaLandModel$State" "at" "[I", Cond.fieldLink RX5 31 "UmbrellaLandModel$State" "wear" "[I"]
def wsX6_wouldGet : List Cond := .code yX6_wouldGet cX6_wouldGet 3 (some .boolean) :: ((wsX6_wouldGet_r1 ++ wsX6_wouldGet_r2) ++ wsX60 ++ wsX50)
def wsX6_lasts : List Cond := .code yX6_lasts cX6_lasts 5 (some .int) :: ([.fieldLink RX6 25 "UmbrellaLandModel" "thrown" "I", .fieldLink RX6 18 "UmbrellaLandModel" "s" "LUmbrellaLandModel$State;", .fieldLink RX6 9 "UmbrellaLandModel" "rain" "[I", .methodLink RX6 32 yX6_isIn, .static yX6_isIn, .initialized RX6, .code yX6_isIn cX6_isIn 3 (some .boolean), .methodLink RX6 39 yX6_no, .instanceMethod yX6_no, .selects RX6 yX6_no yX6_no, .code yX6_no cX6_no 2 (some .int)] ++ wsX60 ++ wsX50)
def wsX6_trust : List Cond := .code yX6_trust cX6_trust 1 (some .double) :: ([.fieldLink RX6 25 "UmbrellaLandModel" "thrown" "I", .fieldLink RX6 18 "UmbrellaLandModel" "s" "LUmbrellaLandModel$State;", .methodLink RX6 130 yX5_over, .instanceMethod yX5_over, .selects RX5 yX5_over yX5_over, .initialized RX5, .code yX5_over cX5_over 4 (some .int), .fieldLink RX5 80 "UmbrellaLandModel$State" "citizens" "I", .fieldLink RX5 61 "UmbrellaLandModel$State" "own" "[I", .fieldLink RX5 58 "UmbrellaLandModel$State" "trust" "[I", .fieldLink RX5 46 "UmbrellaLandModel$State" "is" "[I"] ++ wsX60 ++ wsX50)
def wsX6_digest_r1 : List Cond := [Cond.fieldLink RX6 25 "UmbrellaLandModel" "thrown" "I", Cond.constantLong RX6 154 (569), Cond.constantLong RX6 156 (31), Cond.fieldLink RX6 9 "UmbrellaLandModel" "rain" "[I", Cond.fieldLink RX6 18 "UmbrellaLandModel" "s" "LUmbrellaLandModel$State;", Cond.methodLink RX6 136 yX6_counted, Cond.instanceMethod yX6_counted, Cond.selects RX6 yX6_counted yX6_counted, Cond.initialized RX6, Cond.code yX6_counted cX6_counted 3 (some .int), Cond.arrayClass .int, Cond.methodLink RX6 127 yX5_of, Cond.instanceMethod yX5_of, Cond.selects RX5 yX5_of yX5_of, Cond.initialized RX5, Cond.code yX5_of cX5_of 4 (some .int), Cond.fieldLink RX5 77 "UmbrellaLandModel$State" "umbrellas" "I", Cond.fieldLink RX5 25 "UmbrellaLandModel$State" "kind" "[I", Cond.methodLink RX6 130 yX5_over, Cond.instanceMethod yX5_over, Cond.selects RX5 yX5_over yX5_over, Cond.code yX5_over cX5_over 4 (some .int), Cond.fieldLink RX5 80 "UmbrellaLandModel$State" "citizens" "I", Cond.fieldLink RX5 61 "UmbrellaLandModel$State" "own" "[I"]
def wsX6_digest_r2 : List Cond := [Cond.fieldLink RX5 58 "UmbrellaLandModel$State" "trust" "[I", Cond.fieldLink RX5 46 "UmbrellaLandModel$State" "is" "[I", Cond.methodLink RX6 87 yX6_shelterTold, Cond.instanceMethod yX6_shelterTold, Cond.selects RX6 yX6_shelterTold yX6_shelterTold, Cond.code yX6_shelterTold cX6_shelterTold 5 (some .int), Cond.methodLink RX6 78 yX5_there, Cond.instanceMethod yX5_there, Cond.selects RX5 yX5_there yX5_there, Cond.code yX5_there cX5_there 4 (some .int), Cond.fieldLink RX5 28 "UmbrellaLandModel$State" "at" "[I", Cond.methodLink RX6 84 yX5_first, Cond.instanceMethod yX5_first, Cond.selects RX5 yX5_first yX5_first, Cond.code yX5_first cX5_first 4 (some .int), Cond.fieldLink RX5 31 "UmbrellaLandModel$State" "wear" "[I", Cond.methodLink RX6 109 yX6_umbrellaTold, Cond.instanceMethod yX6_umbrellaTold, Cond.selects RX6 yX6_umbrellaTold yX6_umbrellaTold, Cond.code yX6_umbrellaTold cX6_umbrellaTold 4 (some .int), Cond.methodLink RX6 121 yX6_citizenTold, Cond.instanceMethod yX6_citizenTold, Cond.selects RX6 yX6_citizenTold yX6_citizenTold, Cond.code yX6_citizenTold cX6_citizenTold 4 (some .int)]
def wsX6_digest : List Cond := .code yX6_digest cX6_digest 5 (some .long) :: ((wsX6_digest_r1 ++ wsX6_digest_r2) ++ wsX60 ++ wsX50)
def wsJ9_abs_0f7a4 : List Cond := .code yJ9_abs_0f7a4 cJ9_abs_0f7a4 1 (some .int) :: ([])
def wsJ9_max_7cf53 : List Cond := .code yJ9_max_7cf53 cJ9_max_7cf53 2 (some .int) :: ([])
def wsJ9_min_7cf53 : List Cond := .code yJ9_min_7cf53 cJ9_min_7cf53 2 (some .int) :: ([])
def wsL_build_r1 : List Cond := [Cond.classLink RL 13 "java/lang/IllegalArgumentException", Cond.classLink RL 15 "java/lang/IllegalStateException", Cond.methodLink RL 7 yX4_build, Cond.instanceMethod yX4_build, Cond.selects RX4 yX4_build yX4_build, Cond.initialized RX4, Cond.code yX4_build cX4_build 3 (some .int), Cond.classLink RX4 23 "java/lang/IllegalArgumentException", Cond.initialized "java/lang/IllegalArgumentException", Cond.classLink RX4 38 "java/lang/IllegalStateException", Cond.initialized "java/lang/IllegalStateException", Cond.fieldLink RX4 10 "UmbrellaLand" "now" "LUmbrellaLand$Republic;", Cond.fieldLink RX4 30 "UmbrellaLand$Republic" "shelterCount" "I", Cond.methodLink RX4 19 yX4_isWithin, Cond.static yX4_isWithin, Cond.code yX4_isWithin cX4_isWithin 3 (some .boolean), Cond.methodLink RX4 34 yX1_isBuiltOn, Cond.instanceMethod yX1_isBuiltOn, Cond.selects RX1 yX1_isBuiltOn yX1_isBuiltOn, Cond.initialized RX1, Cond.code yX1_isBuiltOn cX1_isBuiltOn 3 (some .boolean), Cond.fieldLink RX1 46 "UmbrellaLand$Republic" "shelterCount" "I", Cond.fieldLink RX1 17 "UmbrellaLand$Republic" "shelters" "[LUmbrellaLand$Shelter;", Cond.fieldLink RX1 68 "UmbrellaLand$Shelter" "place" "I"]
def wsL_build_r2 : List Cond := [Cond.methodLink RX4 43 yX1_addShelter, Cond.instanceMethod yX1_addShelter, Cond.selects RX1 yX1_addShelter yX1_addShelter, Cond.code yX1_addShelter cX1_addShelter 3 (some .int), Cond.methodLink RX1 71 yX2_open, Cond.instanceMethod yX2_open, Cond.selects RX2 yX2_open yX2_open, Cond.initialized RX2, Cond.code yX2_open cX2_open 3 none, Cond.fieldLink RX2 9 "UmbrellaLand$Shelter" "place" "I", Cond.fieldLink RX2 15 "UmbrellaLand$Shelter" "demand" "I"]
def wsL_build : List Cond := .codeWith yL_build cL_build 5 (some .int) [(0, 10, 13, 13), (0, 10, 17, 15)] :: ((wsL_build_r1 ++ wsL_build_r2) ++ wsX40 ++ wsX10 ++ wsX20 ++ (vx_atS RX4 27 "java/lang/IllegalArgumentException" ["java/lang/RuntimeException", "java/lang/Exception"]).filter goodWord ++ (vx_atS RX4 42 "java/lang/IllegalStateException" ["java/lang/RuntimeException", "java/lang/Exception"]).filter goodWord)
def wsL_bring_r1 : List Cond := [Cond.classLink RL 20 "java/lang/IndexOutOfBoundsException", Cond.classLink RL 13 "java/lang/IllegalArgumentException", Cond.classLink RL 15 "java/lang/IllegalStateException", Cond.methodLink RL 17 yX4_bring, Cond.instanceMethod yX4_bring, Cond.selects RX4 yX4_bring yX4_bring, Cond.initialized RX4, Cond.code yX4_bring cX4_bring 4 (some .int), Cond.classLink RX4 23 "java/lang/IllegalArgumentException", Cond.initialized "java/lang/IllegalArgumentException", Cond.classLink RX4 38 "java/lang/IllegalStateException", Cond.initialized "java/lang/IllegalStateException", Cond.fieldLink RX4 10 "UmbrellaLand" "now" "LUmbrellaLand$Republic;", Cond.fieldLink RX4 53 "UmbrellaLand$Republic" "umbrellaCount" "I", Cond.methodLink RX4 47 yX4_checkShelter, Cond.instanceMethod yX4_checkShelter, Cond.selects RX4 yX4_checkShelter yX4_checkShelter, Cond.code yX4_checkShelter cX4_checkShelter 2 none, Cond.classLink RX4 179 "java/lang/IndexOutOfBoundsException", Cond.initialized "java/lang/IndexOutOfBoundsException", Cond.methodLink RX4 176 yX1_isShelter, Cond.instanceMethod yX1_isShelter, Cond.selects RX1 yX1_isShelter yX1_isShelter, Cond.initialized RX1]
def wsL_bring_r2 : List Cond := [Cond.code yX1_isShelter cX1_isShelter 2 (some .boolean), Cond.fieldLink RX1 46 "UmbrellaLand$Republic" "shelterCount" "I", Cond.methodLink RX4 19 yX4_isWithin, Cond.static yX4_isWithin, Cond.code yX4_isWithin cX4_isWithin 3 (some .boolean), Cond.methodLink RX4 58 yX1_addUmbrella, Cond.instanceMethod yX1_addUmbrella, Cond.selects RX1 yX1_addUmbrella yX1_addUmbrella, Cond.code yX1_addUmbrella cX1_addUmbrella 2 none, Cond.fieldLink RX1 49 "UmbrellaLand$Republic" "umbrellaCount" "I", Cond.fieldLink RX1 23 "UmbrellaLand$Republic" "umbrellas" "[LUmbrellaLand$Umbrella;", Cond.methodLink RX1 75 yX3_beNewIn, Cond.instanceMethod yX3_beNewIn, Cond.selects RX3 yX3_beNewIn yX3_beNewIn, Cond.initialized RX3, Cond.code yX3_beNewIn cX3_beNewIn 2 none, Cond.fieldLink RX3 9 "UmbrellaLand$Umbrella" "wear" "I", Cond.fieldLink RX3 15 "UmbrellaLand$Umbrella" "taken" "I", Cond.fieldLink RX3 18 "UmbrellaLand$Umbrella" "takenFrom" "I", Cond.methodLink RX3 21 yX3_standIn, Cond.instanceMethod yX3_standIn, Cond.selects RX3 yX3_standIn yX3_standIn, Cond.code yX3_standIn cX3_standIn 2 none, Cond.fieldLink RX3 25 "UmbrellaLand$Umbrella" "state" "I"]
def wsL_bring_r3 : List Cond := [Cond.fieldLink RX3 28 "UmbrellaLand$Umbrella" "holder" "I", Cond.fieldLink RX3 31 "UmbrellaLand$Umbrella" "waits" "I"]
def wsL_bring : List Cond := .codeWith yL_bring cL_bring 5 (some .int) [(0, 10, 13, 20), (0, 10, 17, 13), (0, 10, 21, 15)] :: ((wsL_bring_r1 ++ (wsL_bring_r2 ++ wsL_bring_r3)) ++ wsX40 ++ wsX10 ++ wsX30 ++ (vx_atS RX4 27 "java/lang/IllegalArgumentException" ["java/lang/RuntimeException", "java/lang/Exception"]).filter goodWord ++ (vx_atS RX4 42 "java/lang/IllegalStateException" ["java/lang/RuntimeException", "java/lang/Exception"]).filter goodWord ++ (vx_atS RX4 183 "java/lang/IndexOutOfBoundsException" ["java/lang/RuntimeException", "java/lang/Exception"]).filter goodWord)
def wsL_addCitizen_r1 : List Cond := [Cond.classLink RL 20 "java/lang/IndexOutOfBoundsException", Cond.classLink RL 13 "java/lang/IllegalArgumentException", Cond.classLink RL 15 "java/lang/IllegalStateException", Cond.methodLink RL 22 yX4_addCitizen, Cond.instanceMethod yX4_addCitizen, Cond.selects RX4 yX4_addCitizen yX4_addCitizen, Cond.initialized RX4, Cond.code yX4_addCitizen cX4_addCitizen 6 (some .int), Cond.classLink RX4 23 "java/lang/IllegalArgumentException", Cond.initialized "java/lang/IllegalArgumentException", Cond.classLink RX4 38 "java/lang/IllegalStateException", Cond.initialized "java/lang/IllegalStateException", Cond.fieldLink RX4 10 "UmbrellaLand" "now" "LUmbrellaLand$Republic;", Cond.fieldLink RX4 68 "UmbrellaLand$Republic" "citizenCount" "I", Cond.methodLink RX4 47 yX4_checkShelter, Cond.instanceMethod yX4_checkShelter, Cond.selects RX4 yX4_checkShelter yX4_checkShelter, Cond.code yX4_checkShelter cX4_checkShelter 2 none, Cond.classLink RX4 179 "java/lang/IndexOutOfBoundsException", Cond.initialized "java/lang/IndexOutOfBoundsException", Cond.methodLink RX4 176 yX1_isShelter, Cond.instanceMethod yX1_isShelter, Cond.selects RX1 yX1_isShelter yX1_isShelter, Cond.initialized RX1]
def wsL_addCitizen_r2 : List Cond := [Cond.code yX1_isShelter cX1_isShelter 2 (some .boolean), Cond.fieldLink RX1 46 "UmbrellaLand$Republic" "shelterCount" "I", Cond.methodLink RX4 63 yX4_isHourOfDay, Cond.static yX4_isHourOfDay, Cond.code yX4_isHourOfDay cX4_isHourOfDay 1 (some .boolean), Cond.methodLink RX4 19 yX4_isWithin, Cond.static yX4_isWithin, Cond.code yX4_isWithin cX4_isWithin 3 (some .boolean), Cond.methodLink RX4 73 yX1_addPerson, Cond.instanceMethod yX1_addPerson, Cond.selects RX1 yX1_addPerson yX1_addPerson, Cond.code yX1_addPerson cX1_addPerson 7 (some .int), Cond.fieldLink RX1 52 "UmbrellaLand$Republic" "citizenCount" "I", Cond.fieldLink RX1 29 "UmbrellaLand$Republic" "citizens" "[LUmbrellaLand$Citizen;", Cond.fieldLink RX1 87 "UmbrellaLand$Citizen" "leaves" "I", Cond.fieldLink RX1 90 "UmbrellaLand$Citizen" "returns" "I", Cond.fieldLink RX1 93 "UmbrellaLand$Citizen" "forgets" "I", Cond.methodLink RX1 79 yX1_hoursBetween, Cond.instanceMethod yX1_hoursBetween, Cond.selects RX1 yX1_hoursBetween yX1_hoursBetween, Cond.code yX1_hoursBetween cX1_hoursBetween 3 (some .int), Cond.fieldLink RX1 17 "UmbrellaLand$Republic" "shelters" "[LUmbrellaLand$Shelter;", Cond.fieldLink RX1 68 "UmbrellaLand$Shelter" "place" "I", Cond.methodLink RX1 100 Lib.Math.abs.name]
def wsL_addCitizen_r3 : List Cond := [Cond.static Lib.Math.abs.name, Cond.initialized "java/lang/Math", Cond.code Lib.Math.abs.name Lib.Math.abs.code 1 (some .int), Cond.methodLink RX1 106 Lib.Math.max.name, Cond.static Lib.Math.max.name, Cond.code Lib.Math.max.name Lib.Math.max.code 2 (some .int), Cond.methodLink RX1 96 yX1_isShelter, Cond.methodLink RX1 83 yX0_settle, Cond.instanceMethod yX0_settle, Cond.selects RX0 yX0_settle yX0_settle, Cond.initialized RX0, Cond.code yX0_settle cX0_settle 4 none, Cond.fieldLink RX0 9 "UmbrellaLand$Citizen" "home" "I", Cond.fieldLink RX0 15 "UmbrellaLand$Citizen" "work" "I", Cond.fieldLink RX0 18 "UmbrellaLand$Citizen" "hoursOfWalk" "I", Cond.fieldLink RX0 21 "UmbrellaLand$Citizen" "stays" "I", Cond.fieldLink RX0 24 "UmbrellaLand$Citizen" "goal" "I", Cond.fieldLink RX0 27 "UmbrellaLand$Citizen" "inHand" "I", Cond.fieldLink RX0 30 "UmbrellaLand$Citizen" "trust" "I"]
def wsL_addCitizen : List Cond := .codeWith yL_addCitizen cL_addCitizen 8 (some .int) [(0, 16, 19, 20), (0, 16, 23, 13), (0, 16, 27, 15)] :: ((wsL_addCitizen_r1 ++ (wsL_addCitizen_r2 ++ wsL_addCitizen_r3)) ++ wsX40 ++ wsX10 ++ wsX00 ++ wsX20 ++ (vx_atS RX4 27 "java/lang/IllegalArgumentException" ["java/lang/RuntimeException", "java/lang/Exception"]).filter goodWord ++ (vx_atS RX4 42 "java/lang/IllegalStateException" ["java/lang/RuntimeException", "java/lang/Exception"]).filter goodWord ++ (vx_atS RX4 183 "java/lang/IndexOutOfBoundsException" ["java/lang/RuntimeException", "java/lang/Exception"]).filter goodWord)
def wsL_setRain : List Cond := .codeWith yL_setRain cL_setRain 5 (some .int) [(0, 10, 13, 20), (0, 10, 17, 13)] :: ([.classLink RL 20 "java/lang/IndexOutOfBoundsException", .classLink RL 13 "java/lang/IllegalArgumentException", .methodLink RL 26 yX4_setRain, .instanceMethod yX4_setRain, .selects RX4 yX4_setRain yX4_setRain, .initialized RX4, .code yX4_setRain cX4_setRain 4 (some .int), .classLink RX4 23 "java/lang/IllegalArgumentException", .initialized "java/lang/IllegalArgumentException", .fieldLink RX4 10 "UmbrellaLand" "now" "LUmbrellaLand$Republic;", .fieldLink RX4 82 "UmbrellaLand$Republic" "rain" "[I", .methodLink RX4 77 yX4_checkHourOfDay, .static yX4_checkHourOfDay, .code yX4_checkHourOfDay cX4_checkHourOfDay 1 none, .classLink RX4 179 "java/lang/IndexOutOfBoundsException", .initialized "java/lang/IndexOutOfBoundsException", .methodLink RX4 63 yX4_isHourOfDay, .static yX4_isHourOfDay, .code yX4_isHourOfDay cX4_isHourOfDay 1 (some .boolean), .methodLink RX4 19 yX4_isWithin, .static yX4_isWithin, .code yX4_isWithin cX4_isWithin 3 (some .boolean)] ++ wsX40 ++ wsX10 ++ (vx_atS RX4 27 "java/lang/IllegalArgumentException" ["java/lang/RuntimeException", "java/lang/Exception"]).filter goodWord ++ (vx_atS RX4 183 "java/lang/IndexOutOfBoundsException" ["java/lang/RuntimeException", "java/lang/Exception"]).filter goodWord)
def wsL_setDemand_r1 : List Cond := [Cond.classLink RL 20 "java/lang/IndexOutOfBoundsException", Cond.classLink RL 13 "java/lang/IllegalArgumentException", Cond.methodLink RL 29 yX4_setDemand, Cond.instanceMethod yX4_setDemand, Cond.selects RX4 yX4_setDemand yX4_setDemand, Cond.initialized RX4, Cond.code yX4_setDemand cX4_setDemand 4 (some .int), Cond.classLink RX4 23 "java/lang/IllegalArgumentException", Cond.initialized "java/lang/IllegalArgumentException", Cond.fieldLink RX4 10 "UmbrellaLand" "now" "LUmbrellaLand$Republic;", Cond.fieldLink RX4 88 "UmbrellaLand$Republic" "shelters" "[LUmbrellaLand$Shelter;", Cond.fieldLink RX4 92 "UmbrellaLand$Shelter" "demand" "I", Cond.methodLink RX4 47 yX4_checkShelter, Cond.instanceMethod yX4_checkShelter, Cond.selects RX4 yX4_checkShelter yX4_checkShelter, Cond.code yX4_checkShelter cX4_checkShelter 2 none, Cond.classLink RX4 179 "java/lang/IndexOutOfBoundsException", Cond.initialized "java/lang/IndexOutOfBoundsException", Cond.methodLink RX4 176 yX1_isShelter, Cond.instanceMethod yX1_isShelter, Cond.selects RX1 yX1_isShelter yX1_isShelter, Cond.initialized RX1, Cond.code yX1_isShelter cX1_isShelter 2 (some .boolean), Cond.fieldLink RX1 46 "UmbrellaLand$Republic" "shelterCount" "I"]
def wsL_setDemand_r2 : List Cond := [Cond.methodLink RX4 19 yX4_isWithin, Cond.static yX4_isWithin, Cond.code yX4_isWithin cX4_isWithin 3 (some .boolean)]
def wsL_setDemand : List Cond := .codeWith yL_setDemand cL_setDemand 5 (some .int) [(0, 10, 13, 20), (0, 10, 17, 13)] :: ((wsL_setDemand_r1 ++ wsL_setDemand_r2) ++ wsX40 ++ wsX10 ++ wsX20 ++ (vx_atS RX4 27 "java/lang/IllegalArgumentException" ["java/lang/RuntimeException", "java/lang/Exception"]).filter goodWord ++ (vx_atS RX4 183 "java/lang/IndexOutOfBoundsException" ["java/lang/RuntimeException", "java/lang/Exception"]).filter goodWord)
def wsL_shelter_r1 : List Cond := [Cond.classLink RL 20 "java/lang/IndexOutOfBoundsException", Cond.methodLink RL 32 yX4_shelter, Cond.instanceMethod yX4_shelter, Cond.selects RX4 yX4_shelter yX4_shelter, Cond.initialized RX4, Cond.code yX4_shelter cX4_shelter 3 (some .int), Cond.fieldLink RX4 10 "UmbrellaLand" "now" "LUmbrellaLand$Republic;", Cond.methodLink RX4 47 yX4_checkShelter, Cond.instanceMethod yX4_checkShelter, Cond.selects RX4 yX4_checkShelter yX4_checkShelter, Cond.code yX4_checkShelter cX4_checkShelter 2 none, Cond.classLink RX4 179 "java/lang/IndexOutOfBoundsException", Cond.initialized "java/lang/IndexOutOfBoundsException", Cond.methodLink RX4 176 yX1_isShelter, Cond.instanceMethod yX1_isShelter, Cond.selects RX1 yX1_isShelter yX1_isShelter, Cond.initialized RX1, Cond.code yX1_isShelter cX1_isShelter 2 (some .boolean), Cond.fieldLink RX1 46 "UmbrellaLand$Republic" "shelterCount" "I", Cond.methodLink RX4 97 yX4_checkWhat, Cond.static yX4_checkWhat, Cond.code yX4_checkWhat cX4_checkWhat 2 none, Cond.methodLink RX4 19 yX4_isWithin, Cond.static yX4_isWithin]
def wsL_shelter_r2 : List Cond := [Cond.code yX4_isWithin cX4_isWithin 3 (some .boolean), Cond.methodLink RX4 101 yX1_tellShelter, Cond.instanceMethod yX1_tellShelter, Cond.selects RX1 yX1_tellShelter yX1_tellShelter, Cond.code yX1_tellShelter cX1_tellShelter 4 (some .int), Cond.fieldLink RX1 17 "UmbrellaLand$Republic" "shelters" "[LUmbrellaLand$Shelter;", Cond.fieldLink RX1 68 "UmbrellaLand$Shelter" "place" "I", Cond.fieldLink RX1 148 "UmbrellaLand$Shelter" "demand" "I", Cond.fieldLink RX1 169 "UmbrellaLand$Shelter" "taken" "I", Cond.fieldLink RX1 222 "UmbrellaLand$Shelter" "forgotten" "I", Cond.fieldLink RX1 225 "UmbrellaLand$Shelter" "refused" "I", Cond.methodLink RX1 96 yX1_isShelter, Cond.methodLink RX1 209 yX1_umbrellasIn, Cond.instanceMethod yX1_umbrellasIn, Cond.selects RX1 yX1_umbrellasIn yX1_umbrellasIn, Cond.code yX1_umbrellasIn cX1_umbrellasIn 4 (some .int), Cond.fieldLink RX1 49 "UmbrellaLand$Republic" "umbrellaCount" "I", Cond.fieldLink RX1 23 "UmbrellaLand$Republic" "umbrellas" "[LUmbrellaLand$Umbrella;", Cond.methodLink RX1 213 yX3_standsIn, Cond.instanceMethod yX3_standsIn, Cond.selects RX3 yX3_standsIn yX3_standsIn, Cond.initialized RX3, Cond.code yX3_standsIn cX3_standsIn 2 (some .boolean), Cond.fieldLink RX3 25 "UmbrellaLand$Umbrella" "state" "I"]
def wsL_shelter_r3 : List Cond := [Cond.fieldLink RX3 28 "UmbrellaLand$Umbrella" "holder" "I", Cond.methodLink RX1 219 yX1_citizensIn, Cond.instanceMethod yX1_citizensIn, Cond.selects RX1 yX1_citizensIn yX1_citizensIn, Cond.code yX1_citizensIn cX1_citizensIn 4 (some .int), Cond.fieldLink RX1 52 "UmbrellaLand$Republic" "citizenCount" "I", Cond.fieldLink RX1 29 "UmbrellaLand$Republic" "citizens" "[LUmbrellaLand$Citizen;", Cond.fieldLink RX1 139 "UmbrellaLand$Citizen" "stays" "I", Cond.methodLink RX1 142 yX1_firstUmbrellaIn, Cond.instanceMethod yX1_firstUmbrellaIn, Cond.selects RX1 yX1_firstUmbrellaIn yX1_firstUmbrellaIn, Cond.code yX1_firstUmbrellaIn cX1_firstUmbrellaIn 5 (some .int), Cond.fieldLink RX1 183 "UmbrellaLand$Umbrella" "wear" "I"]
def wsL_shelter : List Cond := .codeWith yL_shelter cL_shelter 5 (some .int) [(0, 10, 13, 20)] :: ((wsL_shelter_r1 ++ (wsL_shelter_r2 ++ wsL_shelter_r3)) ++ wsX40 ++ wsX10 ++ wsX20 ++ wsX30 ++ wsX00 ++ (vx_atS RX4 183 "java/lang/IndexOutOfBoundsException" ["java/lang/RuntimeException", "java/lang/Exception"]).filter goodWord)
def wsL_umbrella_r1 : List Cond := [Cond.classLink RL 20 "java/lang/IndexOutOfBoundsException", Cond.methodLink RL 35 yX4_umbrella, Cond.instanceMethod yX4_umbrella, Cond.selects RX4 yX4_umbrella yX4_umbrella, Cond.initialized RX4, Cond.code yX4_umbrella cX4_umbrella 3 (some .int), Cond.fieldLink RX4 10 "UmbrellaLand" "now" "LUmbrellaLand$Republic;", Cond.fieldLink RX4 107 "UmbrellaLand$Republic" "umbrellas" "[LUmbrellaLand$Umbrella;", Cond.methodLink RX4 104 yX4_checkUmbrella, Cond.instanceMethod yX4_checkUmbrella, Cond.selects RX4 yX4_checkUmbrella yX4_checkUmbrella, Cond.code yX4_checkUmbrella cX4_checkUmbrella 2 none, Cond.classLink RX4 179 "java/lang/IndexOutOfBoundsException", Cond.initialized "java/lang/IndexOutOfBoundsException", Cond.methodLink RX4 184 yX1_isUmbrella, Cond.instanceMethod yX1_isUmbrella, Cond.selects RX1 yX1_isUmbrella yX1_isUmbrella, Cond.initialized RX1, Cond.code yX1_isUmbrella cX1_isUmbrella 2 (some .boolean), Cond.fieldLink RX1 49 "UmbrellaLand$Republic" "umbrellaCount" "I", Cond.methodLink RX4 97 yX4_checkWhat, Cond.static yX4_checkWhat, Cond.code yX4_checkWhat cX4_checkWhat 2 none, Cond.methodLink RX4 19 yX4_isWithin]
def wsL_umbrella_r2 : List Cond := [Cond.static yX4_isWithin, Cond.code yX4_isWithin cX4_isWithin 3 (some .boolean), Cond.methodLink RX4 111 yX3_tell, Cond.instanceMethod yX3_tell, Cond.selects RX3 yX3_tell yX3_tell, Cond.initialized RX3, Cond.code yX3_tell cX3_tell 2 (some .int), Cond.fieldLink RX3 25 "UmbrellaLand$Umbrella" "state" "I", Cond.fieldLink RX3 28 "UmbrellaLand$Umbrella" "holder" "I", Cond.fieldLink RX3 9 "UmbrellaLand$Umbrella" "wear" "I", Cond.fieldLink RX3 31 "UmbrellaLand$Umbrella" "waits" "I", Cond.fieldLink RX3 15 "UmbrellaLand$Umbrella" "taken" "I", Cond.fieldLink RX3 18 "UmbrellaLand$Umbrella" "takenFrom" "I"]
def wsL_umbrella : List Cond := .codeWith yL_umbrella cL_umbrella 5 (some .int) [(0, 10, 13, 20)] :: ((wsL_umbrella_r1 ++ wsL_umbrella_r2) ++ wsX40 ++ wsX10 ++ wsX30 ++ (vx_atS RX4 183 "java/lang/IndexOutOfBoundsException" ["java/lang/RuntimeException", "java/lang/Exception"]).filter goodWord)
def wsL_citizen_r1 : List Cond := [Cond.classLink RL 20 "java/lang/IndexOutOfBoundsException", Cond.methodLink RL 38 yX4_citizen, Cond.instanceMethod yX4_citizen, Cond.selects RX4 yX4_citizen yX4_citizen, Cond.initialized RX4, Cond.code yX4_citizen cX4_citizen 3 (some .int), Cond.fieldLink RX4 10 "UmbrellaLand" "now" "LUmbrellaLand$Republic;", Cond.fieldLink RX4 120 "UmbrellaLand$Republic" "citizens" "[LUmbrellaLand$Citizen;", Cond.methodLink RX4 117 yX4_checkCitizen, Cond.instanceMethod yX4_checkCitizen, Cond.selects RX4 yX4_checkCitizen yX4_checkCitizen, Cond.code yX4_checkCitizen cX4_checkCitizen 2 none, Cond.classLink RX4 179 "java/lang/IndexOutOfBoundsException", Cond.initialized "java/lang/IndexOutOfBoundsException", Cond.methodLink RX4 189 yX1_isCitizen, Cond.instanceMethod yX1_isCitizen, Cond.selects RX1 yX1_isCitizen yX1_isCitizen, Cond.initialized RX1, Cond.code yX1_isCitizen cX1_isCitizen 2 (some .boolean), Cond.fieldLink RX1 52 "UmbrellaLand$Republic" "citizenCount" "I", Cond.methodLink RX4 97 yX4_checkWhat, Cond.static yX4_checkWhat, Cond.code yX4_checkWhat cX4_checkWhat 2 none, Cond.methodLink RX4 19 yX4_isWithin]
def wsL_citizen_r2 : List Cond := [Cond.static yX4_isWithin, Cond.code yX4_isWithin cX4_isWithin 3 (some .boolean), Cond.methodLink RX4 124 yX0_tell, Cond.instanceMethod yX0_tell, Cond.selects RX0 yX0_tell yX0_tell, Cond.initialized RX0, Cond.code yX0_tell cX0_tell 2 (some .int), Cond.fieldLink RX0 9 "UmbrellaLand$Citizen" "home" "I", Cond.fieldLink RX0 15 "UmbrellaLand$Citizen" "work" "I", Cond.fieldLink RX0 21 "UmbrellaLand$Citizen" "stays" "I", Cond.fieldLink RX0 42 "UmbrellaLand$Citizen" "hoursToWalk" "I", Cond.fieldLink RX0 27 "UmbrellaLand$Citizen" "inHand" "I", Cond.fieldLink RX0 30 "UmbrellaLand$Citizen" "trust" "I", Cond.fieldLink RX0 45 "UmbrellaLand$Citizen" "wet" "I", Cond.fieldLink RX0 48 "UmbrellaLand$Citizen" "taken" "I", Cond.fieldLink RX0 51 "UmbrellaLand$Citizen" "forgotten" "I", Cond.fieldLink RX0 54 "UmbrellaLand$Citizen" "refused" "I"]
def wsL_citizen : List Cond := .codeWith yL_citizen cL_citizen 5 (some .int) [(0, 10, 13, 20)] :: ((wsL_citizen_r1 ++ wsL_citizen_r2) ++ wsX40 ++ wsX10 ++ wsX00 ++ (vx_atS RX4 183 "java/lang/IndexOutOfBoundsException" ["java/lang/RuntimeException", "java/lang/Exception"]).filter goodWord)
def wsL_count_r1 : List Cond := [Cond.classLink RL 20 "java/lang/IndexOutOfBoundsException", Cond.methodLink RL 41 yX4_count, Cond.instanceMethod yX4_count, Cond.selects RX4 yX4_count yX4_count, Cond.initialized RX4, Cond.code yX4_count cX4_count 2 (some .int), Cond.fieldLink RX4 10 "UmbrellaLand" "now" "LUmbrellaLand$Republic;", Cond.methodLink RX4 97 yX4_checkWhat, Cond.static yX4_checkWhat, Cond.code yX4_checkWhat cX4_checkWhat 2 none, Cond.classLink RX4 179 "java/lang/IndexOutOfBoundsException", Cond.initialized "java/lang/IndexOutOfBoundsException", Cond.methodLink RX4 19 yX4_isWithin, Cond.static yX4_isWithin, Cond.code yX4_isWithin cX4_isWithin 3 (some .boolean), Cond.methodLink RX4 127 yX1_tellAll, Cond.instanceMethod yX1_tellAll, Cond.selects RX1 yX1_tellAll yX1_tellAll, Cond.initialized RX1, Cond.code yX1_tellAll cX1_tellAll 2 (some .int), Cond.fieldLink RX1 42 "UmbrellaLand$Republic" "hour" "I", Cond.fieldLink RX1 46 "UmbrellaLand$Republic" "shelterCount" "I", Cond.fieldLink RX1 49 "UmbrellaLand$Republic" "umbrellaCount" "I", Cond.fieldLink RX1 52 "UmbrellaLand$Republic" "citizenCount" "I"]
def wsL_count_r2 : List Cond := [Cond.fieldLink RX1 55 "UmbrellaLand$Republic" "carried" "I", Cond.methodLink RX1 226 yX1_umbrellasThatAre, Cond.instanceMethod yX1_umbrellasThatAre, Cond.selects RX1 yX1_umbrellasThatAre yX1_umbrellasThatAre, Cond.code yX1_umbrellasThatAre cX1_umbrellasThatAre 4 (some .int), Cond.fieldLink RX1 23 "UmbrellaLand$Republic" "umbrellas" "[LUmbrellaLand$Umbrella;", Cond.fieldLink RX1 216 "UmbrellaLand$Umbrella" "state" "I", Cond.methodLink RX1 219 yX1_citizensIn, Cond.instanceMethod yX1_citizensIn, Cond.selects RX1 yX1_citizensIn yX1_citizensIn, Cond.code yX1_citizensIn cX1_citizensIn 4 (some .int), Cond.fieldLink RX1 29 "UmbrellaLand$Republic" "citizens" "[LUmbrellaLand$Citizen;", Cond.fieldLink RX1 139 "UmbrellaLand$Citizen" "stays" "I", Cond.methodLink RX1 229 yX1_wetOfAll, Cond.instanceMethod yX1_wetOfAll, Cond.selects RX1 yX1_wetOfAll yX1_wetOfAll, Cond.code yX1_wetOfAll cX1_wetOfAll 3 (some .int), Cond.fieldLink RX1 180 "UmbrellaLand$Citizen" "wet" "I"]
def wsL_count : List Cond := .codeWith yL_count cL_count 4 (some .int) [(0, 9, 12, 20)] :: ((wsL_count_r1 ++ wsL_count_r2) ++ wsX40 ++ wsX10 ++ wsX30 ++ wsX00 ++ (vx_atS RX4 183 "java/lang/IndexOutOfBoundsException" ["java/lang/RuntimeException", "java/lang/Exception"]).filter goodWord)
def wsL_pass_r1 : List Cond := [Cond.classLink RL 13 "java/lang/IllegalArgumentException", Cond.methodLink RL 45 yX4_pass, Cond.instanceMethod yX4_pass, Cond.selects RX4 yX4_pass yX4_pass, Cond.initialized RX4, Cond.code yX4_pass cX4_pass 2 (some .int), Cond.fieldLink RX4 10 "UmbrellaLand" "now" "LUmbrellaLand$Republic;", Cond.methodLink RX4 130 yX4_checkHours, Cond.static yX4_checkHours, Cond.code yX4_checkHours cX4_checkHours 2 none, Cond.classLink RX4 23 "java/lang/IllegalArgumentException", Cond.initialized "java/lang/IllegalArgumentException", Cond.methodLink RX4 19 yX4_isWithin, Cond.static yX4_isWithin, Cond.code yX4_isWithin cX4_isWithin 3 (some .boolean), Cond.methodLink RX4 133 yX1_letGoBy, Cond.instanceMethod yX1_letGoBy, Cond.selects RX1 yX1_letGoBy yX1_letGoBy, Cond.initialized RX1, Cond.code yX1_letGoBy cX1_letGoBy 5 (some .int), Cond.fieldLink RX1 42 "UmbrellaLand$Republic" "hour" "I", Cond.fieldLink RX1 9 "UmbrellaLand$Republic" "rain" "[I", Cond.methodLink RX1 109 yJ9_floorMod_7cf53, Cond.static yJ9_floorMod_7cf53]
def wsL_pass_r2 : List Cond := [Cond.initialized RJ9, Cond.code yJ9_floorMod_7cf53 cJ9_floorMod_7cf53 3 (some .int), Cond.methodLink RX1 112 yX1_letUmbrellasWait, Cond.instanceMethod yX1_letUmbrellasWait, Cond.selects RX1 yX1_letUmbrellasWait yX1_letUmbrellasWait, Cond.code yX1_letUmbrellasWait cX1_letUmbrellasWait 2 none, Cond.fieldLink RX1 49 "UmbrellaLand$Republic" "umbrellaCount" "I", Cond.fieldLink RX1 23 "UmbrellaLand$Republic" "umbrellas" "[LUmbrellaLand$Umbrella;", Cond.methodLink RX1 127 yX3_waitAnHour, Cond.instanceMethod yX3_waitAnHour, Cond.selects RX3 yX3_waitAnHour yX3_waitAnHour, Cond.initialized RX3, Cond.code yX3_waitAnHour cX3_waitAnHour 1 none, Cond.fieldLink RX3 31 "UmbrellaLand$Umbrella" "waits" "I", Cond.fieldLink RX3 25 "UmbrellaLand$Umbrella" "state" "I", Cond.fieldLink RX3 9 "UmbrellaLand$Umbrella" "wear" "I", Cond.fieldLink RX3 18 "UmbrellaLand$Umbrella" "takenFrom" "I", Cond.methodLink RX3 21 yX3_standIn, Cond.instanceMethod yX3_standIn, Cond.selects RX3 yX3_standIn yX3_standIn, Cond.code yX3_standIn cX3_standIn 2 none, Cond.fieldLink RX3 28 "UmbrellaLand$Umbrella" "holder" "I", Cond.methodLink RX1 115 yX1_letCitizensLeave, Cond.instanceMethod yX1_letCitizensLeave]
def wsL_pass_r3 : List Cond := [Cond.selects RX1 yX1_letCitizensLeave yX1_letCitizensLeave, Cond.code yX1_letCitizensLeave cX1_letCitizensLeave 5 (some .int), Cond.fieldLink RX1 52 "UmbrellaLand$Republic" "citizenCount" "I", Cond.fieldLink RX1 29 "UmbrellaLand$Republic" "citizens" "[LUmbrellaLand$Citizen;", Cond.methodLink RX1 130 yX0_leavesAt, Cond.instanceMethod yX0_leavesAt, Cond.selects RX0 yX0_leavesAt yX0_leavesAt, Cond.initialized RX0, Cond.code yX0_leavesAt cX0_leavesAt 2 (some .boolean), Cond.fieldLink RX0 21 "UmbrellaLand$Citizen" "stays" "I", Cond.fieldLink RX0 9 "UmbrellaLand$Citizen" "home" "I", Cond.fieldLink RX0 33 "UmbrellaLand$Citizen" "leaves" "I", Cond.fieldLink RX0 15 "UmbrellaLand$Citizen" "work" "I", Cond.fieldLink RX0 36 "UmbrellaLand$Citizen" "returns" "I", Cond.methodLink RX1 133 yX1_takeUmbrella, Cond.instanceMethod yX1_takeUmbrella, Cond.selects RX1 yX1_takeUmbrella yX1_takeUmbrella, Cond.code yX1_takeUmbrella cX1_takeUmbrella 5 (some .boolean), Cond.fieldLink RX1 139 "UmbrellaLand$Citizen" "stays" "I", Cond.fieldLink RX1 17 "UmbrellaLand$Republic" "shelters" "[LUmbrellaLand$Shelter;", Cond.fieldLink RX1 145 "UmbrellaLand$Citizen" "trust" "I", Cond.fieldLink RX1 148 "UmbrellaLand$Shelter" "demand" "I", Cond.fieldLink RX1 154 "UmbrellaLand$Citizen" "refused" "I", Cond.fieldLink RX1 163 "UmbrellaLand$Citizen" "inHand" "I"]
def wsL_pass_r4 : List Cond := [Cond.fieldLink RX1 166 "UmbrellaLand$Citizen" "taken" "I", Cond.fieldLink RX1 169 "UmbrellaLand$Shelter" "taken" "I", Cond.methodLink RX1 96 yX1_isShelter, Cond.instanceMethod yX1_isShelter, Cond.selects RX1 yX1_isShelter yX1_isShelter, Cond.code yX1_isShelter cX1_isShelter 2 (some .boolean), Cond.fieldLink RX1 46 "UmbrellaLand$Republic" "shelterCount" "I", Cond.methodLink RX1 142 yX1_firstUmbrellaIn, Cond.instanceMethod yX1_firstUmbrellaIn, Cond.selects RX1 yX1_firstUmbrellaIn yX1_firstUmbrellaIn, Cond.code yX1_firstUmbrellaIn cX1_firstUmbrellaIn 5 (some .int), Cond.fieldLink RX1 183 "UmbrellaLand$Umbrella" "wear" "I", Cond.methodLink RX1 213 yX3_standsIn, Cond.instanceMethod yX3_standsIn, Cond.selects RX3 yX3_standsIn yX3_standsIn, Cond.code yX3_standsIn cX3_standsIn 2 (some .boolean), Cond.methodLink RX1 151 yX1_isUmbrella, Cond.instanceMethod yX1_isUmbrella, Cond.selects RX1 yX1_isUmbrella yX1_isUmbrella, Cond.code yX1_isUmbrella cX1_isUmbrella 2 (some .boolean), Cond.methodLink RX1 157 yX2_noteRefusal, Cond.instanceMethod yX2_noteRefusal, Cond.selects RX2 yX2_noteRefusal yX2_noteRefusal, Cond.initialized RX2]
def wsL_pass_r5 : List Cond := [Cond.code yX2_noteRefusal cX2_noteRefusal 1 none, Cond.fieldLink RX2 24 "UmbrellaLand$Shelter" "refused" "I", Cond.fieldLink RX2 30 "UmbrellaLand$Shelter" "refusedToday" "I", Cond.methodLink RX1 160 yX3_goWith, Cond.instanceMethod yX3_goWith, Cond.selects RX3 yX3_goWith yX3_goWith, Cond.code yX3_goWith cX3_goWith 2 none, Cond.fieldLink RX3 15 "UmbrellaLand$Umbrella" "taken" "I", Cond.methodLink RX1 136 yX0_setOut, Cond.instanceMethod yX0_setOut, Cond.selects RX0 yX0_setOut yX0_setOut, Cond.code yX0_setOut cX0_setOut 1 none, Cond.fieldLink RX0 24 "UmbrellaLand$Citizen" "goal" "I", Cond.fieldLink RX0 18 "UmbrellaLand$Citizen" "hoursOfWalk" "I", Cond.fieldLink RX0 42 "UmbrellaLand$Citizen" "hoursToWalk" "I", Cond.methodLink RX1 118 yX1_letCitizensWalk, Cond.instanceMethod yX1_letCitizensWalk, Cond.selects RX1 yX1_letCitizensWalk yX1_letCitizensWalk, Cond.code yX1_letCitizensWalk cX1_letCitizensWalk 4 none, Cond.fieldLink RX1 170 "UmbrellaLand$Citizen" "hoursToWalk" "I", Cond.methodLink RX1 173 yX1_meetRain, Cond.instanceMethod yX1_meetRain, Cond.selects RX1 yX1_meetRain yX1_meetRain, Cond.code yX1_meetRain cX1_meetRain 4 none]
def wsL_pass_r6 : List Cond := [Cond.fieldLink RX1 180 "UmbrellaLand$Citizen" "wet" "I", Cond.methodLink RX1 186 yX3_stayAway, Cond.instanceMethod yX3_stayAway, Cond.selects RX3 yX3_stayAway yX3_stayAway, Cond.code yX3_stayAway cX3_stayAway 3 none, Cond.methodLink RX1 177 yX1_arrive, Cond.instanceMethod yX1_arrive, Cond.selects RX1 yX1_arrive yX1_arrive, Cond.code yX1_arrive cX1_arrive 3 none, Cond.fieldLink RX1 189 "UmbrellaLand$Citizen" "goal" "I", Cond.fieldLink RX1 205 "UmbrellaLand$Umbrella" "takenFrom" "I", Cond.methodLink RX1 192 yX0_forgetsThisOne, Cond.instanceMethod yX0_forgetsThisOne, Cond.selects RX0 yX0_forgetsThisOne yX0_forgetsThisOne, Cond.code yX0_forgetsThisOne cX0_forgetsThisOne 1 (some .boolean), Cond.fieldLink RX0 39 "UmbrellaLand$Citizen" "forgets" "I", Cond.fieldLink RX0 48 "UmbrellaLand$Citizen" "taken" "I", Cond.methodLink RX1 196 yX3_standIn, Cond.methodLink RX1 199 yX0_noteBroughtBack, Cond.instanceMethod yX0_noteBroughtBack, Cond.selects RX0 yX0_noteBroughtBack yX0_noteBroughtBack, Cond.code yX0_noteBroughtBack cX0_noteBroughtBack 1 none, Cond.fieldLink RX0 30 "UmbrellaLand$Citizen" "trust" "I", Cond.methodLink RX0 63 Lib.Math.min.name]
def wsL_pass_r7 : List Cond := [Cond.static Lib.Math.min.name, Cond.initialized "java/lang/Math", Cond.code Lib.Math.min.name Lib.Math.min.code 2 (some .int), Cond.methodLink RX1 202 yX0_noteForgotten, Cond.instanceMethod yX0_noteForgotten, Cond.selects RX0 yX0_noteForgotten yX0_noteForgotten, Cond.code yX0_noteForgotten cX0_noteForgotten 1 none, Cond.fieldLink RX0 51 "UmbrellaLand$Citizen" "forgotten" "I", Cond.methodLink RX0 57 Lib.Math.max.name, Cond.static Lib.Math.max.name, Cond.code Lib.Math.max.name Lib.Math.max.code 2 (some .int), Cond.methodLink RX1 208 yX2_noteForgotten, Cond.instanceMethod yX2_noteForgotten, Cond.selects RX2 yX2_noteForgotten yX2_noteForgotten, Cond.code yX2_noteForgotten cX2_noteForgotten 1 none, Cond.fieldLink RX2 21 "UmbrellaLand$Shelter" "forgotten" "I", Cond.fieldLink RX2 27 "UmbrellaLand$Shelter" "forgottenToday" "I", Cond.methodLink RX1 121 yX1_driveCart, Cond.instanceMethod yX1_driveCart, Cond.selects RX1 yX1_driveCart yX1_driveCart, Cond.code yX1_driveCart cX1_driveCart 4 none, Cond.fieldLink RX1 55 "UmbrellaLand$Republic" "carried" "I", Cond.methodLink RX1 209 yX1_umbrellasIn, Cond.instanceMethod yX1_umbrellasIn]
def wsL_pass_r8 : List Cond := [Cond.selects RX1 yX1_umbrellasIn yX1_umbrellasIn, Cond.code yX1_umbrellasIn cX1_umbrellasIn 4 (some .int), Cond.methodLink RX1 124 yX1_endDay, Cond.instanceMethod yX1_endDay, Cond.selects RX1 yX1_endDay yX1_endDay, Cond.code yX1_endDay cX1_endDay 2 none, Cond.methodLink RX1 212 yX2_endDay, Cond.instanceMethod yX2_endDay, Cond.selects RX2 yX2_endDay yX2_endDay, Cond.code yX2_endDay cX2_endDay 1 none, Cond.fieldLink RX2 15 "UmbrellaLand$Shelter" "demand" "I", Cond.methodLink RX2 33 Lib.Math.min.name, Cond.methodLink RX2 39 Lib.Math.max.name]
def wsL_pass : List Cond := .codeWith yL_pass cL_pass 4 (some .int) [(0, 9, 12, 13)] :: ((wsL_pass_r1 ++ (wsL_pass_r2 ++ (wsL_pass_r3 ++ (wsL_pass_r4 ++ (wsL_pass_r5 ++ (wsL_pass_r6 ++ (wsL_pass_r7 ++ wsL_pass_r8))))))) ++ wsX40 ++ wsX10 ++ wsX30 ++ wsX00 ++ wsX20 ++ (vx_atS RX4 27 "java/lang/IllegalArgumentException" ["java/lang/RuntimeException", "java/lang/Exception"]).filter goodWord)
def wsL_foresee_r1 : List Cond := [Cond.classLink RL 13 "java/lang/IllegalArgumentException", Cond.classLink RL 20 "java/lang/IndexOutOfBoundsException", Cond.methodLink RL 48 yX4_foresee, Cond.instanceMethod yX4_foresee, Cond.selects RX4 yX4_foresee yX4_foresee, Cond.initialized RX4, Cond.code yX4_foresee cX4_foresee 3 (some .int), Cond.fieldLink RX4 16 "UmbrellaLand" "ahead" "LUmbrellaLand$Republic;", Cond.fieldLink RX4 10 "UmbrellaLand" "now" "LUmbrellaLand$Republic;", Cond.methodLink RX4 130 yX4_checkHours, Cond.static yX4_checkHours, Cond.code yX4_checkHours cX4_checkHours 2 none, Cond.classLink RX4 23 "java/lang/IllegalArgumentException", Cond.initialized "java/lang/IllegalArgumentException", Cond.methodLink RX4 19 yX4_isWithin, Cond.static yX4_isWithin, Cond.code yX4_isWithin cX4_isWithin 3 (some .boolean), Cond.methodLink RX4 97 yX4_checkWhat, Cond.static yX4_checkWhat, Cond.code yX4_checkWhat cX4_checkWhat 2 none, Cond.classLink RX4 179 "java/lang/IndexOutOfBoundsException", Cond.initialized "java/lang/IndexOutOfBoundsException", Cond.methodLink RX4 136 yX1_becomeLike, Cond.instanceMethod yX1_becomeLike]
def wsL_foresee_r2 : List Cond := [Cond.selects RX1 yX1_becomeLike yX1_becomeLike, Cond.initialized RX1, Cond.code yX1_becomeLike cX1_becomeLike 3 none, Cond.fieldLink RX1 9 "UmbrellaLand$Republic" "rain" "[I", Cond.methodLink RX1 36 arraycopyName, Cond.native arraycopyName, Cond.static arraycopyName, Cond.initialized "java/lang/System", Cond.fieldLink RX1 42 "UmbrellaLand$Republic" "hour" "I", Cond.fieldLink RX1 46 "UmbrellaLand$Republic" "shelterCount" "I", Cond.fieldLink RX1 49 "UmbrellaLand$Republic" "umbrellaCount" "I", Cond.fieldLink RX1 52 "UmbrellaLand$Republic" "citizenCount" "I", Cond.fieldLink RX1 55 "UmbrellaLand$Republic" "carried" "I", Cond.fieldLink RX1 17 "UmbrellaLand$Republic" "shelters" "[LUmbrellaLand$Shelter;", Cond.fieldLink RX1 23 "UmbrellaLand$Republic" "umbrellas" "[LUmbrellaLand$Umbrella;", Cond.fieldLink RX1 29 "UmbrellaLand$Republic" "citizens" "[LUmbrellaLand$Citizen;", Cond.methodLink RX1 58 yX2_becomeLike, Cond.instanceMethod yX2_becomeLike, Cond.selects RX2 yX2_becomeLike yX2_becomeLike, Cond.initialized RX2, Cond.code yX2_becomeLike cX2_becomeLike 2 none, Cond.fieldLink RX2 9 "UmbrellaLand$Shelter" "place" "I", Cond.fieldLink RX2 15 "UmbrellaLand$Shelter" "demand" "I", Cond.fieldLink RX2 18 "UmbrellaLand$Shelter" "taken" "I"]
def wsL_foresee_r3 : List Cond := [Cond.fieldLink RX2 21 "UmbrellaLand$Shelter" "forgotten" "I", Cond.fieldLink RX2 24 "UmbrellaLand$Shelter" "refused" "I", Cond.fieldLink RX2 27 "UmbrellaLand$Shelter" "forgottenToday" "I", Cond.fieldLink RX2 30 "UmbrellaLand$Shelter" "refusedToday" "I", Cond.methodLink RX1 62 yX3_becomeLike, Cond.instanceMethod yX3_becomeLike, Cond.selects RX3 yX3_becomeLike yX3_becomeLike, Cond.initialized RX3, Cond.code yX3_becomeLike cX3_becomeLike 2 none, Cond.fieldLink RX3 25 "UmbrellaLand$Umbrella" "state" "I", Cond.fieldLink RX3 28 "UmbrellaLand$Umbrella" "holder" "I", Cond.fieldLink RX3 9 "UmbrellaLand$Umbrella" "wear" "I", Cond.fieldLink RX3 31 "UmbrellaLand$Umbrella" "waits" "I", Cond.fieldLink RX3 15 "UmbrellaLand$Umbrella" "taken" "I", Cond.fieldLink RX3 18 "UmbrellaLand$Umbrella" "takenFrom" "I", Cond.methodLink RX1 65 yX0_becomeLike, Cond.instanceMethod yX0_becomeLike, Cond.selects RX0 yX0_becomeLike yX0_becomeLike, Cond.initialized RX0, Cond.code yX0_becomeLike cX0_becomeLike 2 none, Cond.fieldLink RX0 9 "UmbrellaLand$Citizen" "home" "I", Cond.fieldLink RX0 15 "UmbrellaLand$Citizen" "work" "I", Cond.fieldLink RX0 33 "UmbrellaLand$Citizen" "leaves" "I", Cond.fieldLink RX0 36 "UmbrellaLand$Citizen" "returns" "I"]
def wsL_foresee_r4 : List Cond := [Cond.fieldLink RX0 39 "UmbrellaLand$Citizen" "forgets" "I", Cond.fieldLink RX0 18 "UmbrellaLand$Citizen" "hoursOfWalk" "I", Cond.fieldLink RX0 21 "UmbrellaLand$Citizen" "stays" "I", Cond.fieldLink RX0 24 "UmbrellaLand$Citizen" "goal" "I", Cond.fieldLink RX0 42 "UmbrellaLand$Citizen" "hoursToWalk" "I", Cond.fieldLink RX0 27 "UmbrellaLand$Citizen" "inHand" "I", Cond.fieldLink RX0 30 "UmbrellaLand$Citizen" "trust" "I", Cond.fieldLink RX0 45 "UmbrellaLand$Citizen" "wet" "I", Cond.fieldLink RX0 48 "UmbrellaLand$Citizen" "taken" "I", Cond.fieldLink RX0 51 "UmbrellaLand$Citizen" "forgotten" "I", Cond.fieldLink RX0 54 "UmbrellaLand$Citizen" "refused" "I", Cond.methodLink RX4 133 yX1_letGoBy, Cond.instanceMethod yX1_letGoBy, Cond.selects RX1 yX1_letGoBy yX1_letGoBy, Cond.code yX1_letGoBy cX1_letGoBy 5 (some .int), Cond.methodLink RX1 109 yJ9_floorMod_7cf53, Cond.static yJ9_floorMod_7cf53, Cond.initialized RJ9, Cond.code yJ9_floorMod_7cf53 cJ9_floorMod_7cf53 3 (some .int), Cond.methodLink RX1 112 yX1_letUmbrellasWait, Cond.instanceMethod yX1_letUmbrellasWait, Cond.selects RX1 yX1_letUmbrellasWait yX1_letUmbrellasWait, Cond.code yX1_letUmbrellasWait cX1_letUmbrellasWait 2 none, Cond.methodLink RX1 127 yX3_waitAnHour]
def wsL_foresee_r5 : List Cond := [Cond.instanceMethod yX3_waitAnHour, Cond.selects RX3 yX3_waitAnHour yX3_waitAnHour, Cond.code yX3_waitAnHour cX3_waitAnHour 1 none, Cond.methodLink RX3 21 yX3_standIn, Cond.instanceMethod yX3_standIn, Cond.selects RX3 yX3_standIn yX3_standIn, Cond.code yX3_standIn cX3_standIn 2 none, Cond.methodLink RX1 115 yX1_letCitizensLeave, Cond.instanceMethod yX1_letCitizensLeave, Cond.selects RX1 yX1_letCitizensLeave yX1_letCitizensLeave, Cond.code yX1_letCitizensLeave cX1_letCitizensLeave 5 (some .int), Cond.methodLink RX1 130 yX0_leavesAt, Cond.instanceMethod yX0_leavesAt, Cond.selects RX0 yX0_leavesAt yX0_leavesAt, Cond.code yX0_leavesAt cX0_leavesAt 2 (some .boolean), Cond.methodLink RX1 133 yX1_takeUmbrella, Cond.instanceMethod yX1_takeUmbrella, Cond.selects RX1 yX1_takeUmbrella yX1_takeUmbrella, Cond.code yX1_takeUmbrella cX1_takeUmbrella 5 (some .boolean), Cond.fieldLink RX1 139 "UmbrellaLand$Citizen" "stays" "I", Cond.fieldLink RX1 145 "UmbrellaLand$Citizen" "trust" "I", Cond.fieldLink RX1 148 "UmbrellaLand$Shelter" "demand" "I", Cond.fieldLink RX1 154 "UmbrellaLand$Citizen" "refused" "I", Cond.fieldLink RX1 163 "UmbrellaLand$Citizen" "inHand" "I"]
def wsL_foresee_r6 : List Cond := [Cond.fieldLink RX1 166 "UmbrellaLand$Citizen" "taken" "I", Cond.fieldLink RX1 169 "UmbrellaLand$Shelter" "taken" "I", Cond.methodLink RX1 96 yX1_isShelter, Cond.instanceMethod yX1_isShelter, Cond.selects RX1 yX1_isShelter yX1_isShelter, Cond.code yX1_isShelter cX1_isShelter 2 (some .boolean), Cond.methodLink RX1 142 yX1_firstUmbrellaIn, Cond.instanceMethod yX1_firstUmbrellaIn, Cond.selects RX1 yX1_firstUmbrellaIn yX1_firstUmbrellaIn, Cond.code yX1_firstUmbrellaIn cX1_firstUmbrellaIn 5 (some .int), Cond.fieldLink RX1 183 "UmbrellaLand$Umbrella" "wear" "I", Cond.methodLink RX1 213 yX3_standsIn, Cond.instanceMethod yX3_standsIn, Cond.selects RX3 yX3_standsIn yX3_standsIn, Cond.code yX3_standsIn cX3_standsIn 2 (some .boolean), Cond.methodLink RX1 151 yX1_isUmbrella, Cond.instanceMethod yX1_isUmbrella, Cond.selects RX1 yX1_isUmbrella yX1_isUmbrella, Cond.code yX1_isUmbrella cX1_isUmbrella 2 (some .boolean), Cond.methodLink RX1 157 yX2_noteRefusal, Cond.instanceMethod yX2_noteRefusal, Cond.selects RX2 yX2_noteRefusal yX2_noteRefusal, Cond.code yX2_noteRefusal cX2_noteRefusal 1 none, Cond.methodLink RX1 160 yX3_goWith]
def wsL_foresee_r7 : List Cond := [Cond.instanceMethod yX3_goWith, Cond.selects RX3 yX3_goWith yX3_goWith, Cond.code yX3_goWith cX3_goWith 2 none, Cond.methodLink RX1 136 yX0_setOut, Cond.instanceMethod yX0_setOut, Cond.selects RX0 yX0_setOut yX0_setOut, Cond.code yX0_setOut cX0_setOut 1 none, Cond.methodLink RX1 118 yX1_letCitizensWalk, Cond.instanceMethod yX1_letCitizensWalk, Cond.selects RX1 yX1_letCitizensWalk yX1_letCitizensWalk, Cond.code yX1_letCitizensWalk cX1_letCitizensWalk 4 none, Cond.fieldLink RX1 170 "UmbrellaLand$Citizen" "hoursToWalk" "I", Cond.methodLink RX1 173 yX1_meetRain, Cond.instanceMethod yX1_meetRain, Cond.selects RX1 yX1_meetRain yX1_meetRain, Cond.code yX1_meetRain cX1_meetRain 4 none, Cond.fieldLink RX1 180 "UmbrellaLand$Citizen" "wet" "I", Cond.methodLink RX1 186 yX3_stayAway, Cond.instanceMethod yX3_stayAway, Cond.selects RX3 yX3_stayAway yX3_stayAway, Cond.code yX3_stayAway cX3_stayAway 3 none, Cond.methodLink RX1 177 yX1_arrive, Cond.instanceMethod yX1_arrive, Cond.selects RX1 yX1_arrive yX1_arrive]
def wsL_foresee_r8 : List Cond := [Cond.code yX1_arrive cX1_arrive 3 none, Cond.fieldLink RX1 189 "UmbrellaLand$Citizen" "goal" "I", Cond.fieldLink RX1 205 "UmbrellaLand$Umbrella" "takenFrom" "I", Cond.methodLink RX1 192 yX0_forgetsThisOne, Cond.instanceMethod yX0_forgetsThisOne, Cond.selects RX0 yX0_forgetsThisOne yX0_forgetsThisOne, Cond.code yX0_forgetsThisOne cX0_forgetsThisOne 1 (some .boolean), Cond.methodLink RX1 196 yX3_standIn, Cond.methodLink RX1 199 yX0_noteBroughtBack, Cond.instanceMethod yX0_noteBroughtBack, Cond.selects RX0 yX0_noteBroughtBack yX0_noteBroughtBack, Cond.code yX0_noteBroughtBack cX0_noteBroughtBack 1 none, Cond.methodLink RX0 63 Lib.Math.min.name, Cond.static Lib.Math.min.name, Cond.initialized "java/lang/Math", Cond.code Lib.Math.min.name Lib.Math.min.code 2 (some .int), Cond.methodLink RX1 202 yX0_noteForgotten, Cond.instanceMethod yX0_noteForgotten, Cond.selects RX0 yX0_noteForgotten yX0_noteForgotten, Cond.code yX0_noteForgotten cX0_noteForgotten 1 none, Cond.methodLink RX0 57 Lib.Math.max.name, Cond.static Lib.Math.max.name, Cond.code Lib.Math.max.name Lib.Math.max.code 2 (some .int), Cond.methodLink RX1 208 yX2_noteForgotten]
def wsL_foresee_r9 : List Cond := [Cond.instanceMethod yX2_noteForgotten, Cond.selects RX2 yX2_noteForgotten yX2_noteForgotten, Cond.code yX2_noteForgotten cX2_noteForgotten 1 none, Cond.methodLink RX1 121 yX1_driveCart, Cond.instanceMethod yX1_driveCart, Cond.selects RX1 yX1_driveCart yX1_driveCart, Cond.code yX1_driveCart cX1_driveCart 4 none, Cond.methodLink RX1 209 yX1_umbrellasIn, Cond.instanceMethod yX1_umbrellasIn, Cond.selects RX1 yX1_umbrellasIn yX1_umbrellasIn, Cond.code yX1_umbrellasIn cX1_umbrellasIn 4 (some .int), Cond.methodLink RX1 124 yX1_endDay, Cond.instanceMethod yX1_endDay, Cond.selects RX1 yX1_endDay yX1_endDay, Cond.code yX1_endDay cX1_endDay 2 none, Cond.methodLink RX1 212 yX2_endDay, Cond.instanceMethod yX2_endDay, Cond.selects RX2 yX2_endDay yX2_endDay, Cond.code yX2_endDay cX2_endDay 1 none, Cond.methodLink RX2 33 Lib.Math.min.name, Cond.methodLink RX2 39 Lib.Math.max.name, Cond.methodLink RX4 140 yX1_wetOfAll, Cond.instanceMethod yX1_wetOfAll, Cond.selects RX1 yX1_wetOfAll yX1_wetOfAll]
def wsL_foresee_r10 : List Cond := [Cond.code yX1_wetOfAll cX1_wetOfAll 3 (some .int), Cond.methodLink RX4 144 yX1_umbrellasThatAre, Cond.instanceMethod yX1_umbrellasThatAre, Cond.selects RX1 yX1_umbrellasThatAre yX1_umbrellasThatAre, Cond.code yX1_umbrellasThatAre cX1_umbrellasThatAre 4 (some .int), Cond.fieldLink RX1 216 "UmbrellaLand$Umbrella" "state" "I", Cond.methodLink RX4 147 yX1_trustOfAll, Cond.instanceMethod yX1_trustOfAll, Cond.selects RX1 yX1_trustOfAll yX1_trustOfAll, Cond.code yX1_trustOfAll cX1_trustOfAll 3 (some .int)]
def wsL_foresee : List Cond := .codeWith yL_foresee cL_foresee 5 (some .int) [(0, 10, 13, 13), (0, 10, 17, 20)] :: ((wsL_foresee_r1 ++ (wsL_foresee_r2 ++ (wsL_foresee_r3 ++ (wsL_foresee_r4 ++ (wsL_foresee_r5 ++ (wsL_foresee_r6 ++ (wsL_foresee_r7 ++ (wsL_foresee_r8 ++ (wsL_foresee_r9 ++ wsL_foresee_r10))))))))) ++ wsX40 ++ wsX10 ++ wsX20 ++ wsX30 ++ wsX00 ++ (vx_atS RX4 27 "java/lang/IllegalArgumentException" ["java/lang/RuntimeException", "java/lang/Exception"]).filter goodWord ++ (vx_atS RX4 183 "java/lang/IndexOutOfBoundsException" ["java/lang/RuntimeException", "java/lang/Exception"]).filter goodWord)
def wsL_advise_r1 : List Cond := [Cond.classLink RL 13 "java/lang/IllegalArgumentException", Cond.classLink RL 15 "java/lang/IllegalStateException", Cond.methodLink RL 51 yX4_advise, Cond.instanceMethod yX4_advise, Cond.selects RX4 yX4_advise yX4_advise, Cond.initialized RX4, Cond.code yX4_advise cX4_advise 6 (some .int), Cond.classLink RX4 38 "java/lang/IllegalStateException", Cond.initialized "java/lang/IllegalStateException", Cond.fieldLink RX4 10 "UmbrellaLand" "now" "LUmbrellaLand$Republic;", Cond.fieldLink RX4 53 "UmbrellaLand$Republic" "umbrellaCount" "I", Cond.fieldLink RX4 30 "UmbrellaLand$Republic" "shelterCount" "I", Cond.methodLink RX4 130 yX4_checkHours, Cond.static yX4_checkHours, Cond.code yX4_checkHours cX4_checkHours 2 none, Cond.classLink RX4 23 "java/lang/IllegalArgumentException", Cond.initialized "java/lang/IllegalArgumentException", Cond.methodLink RX4 19 yX4_isWithin, Cond.static yX4_isWithin, Cond.code yX4_isWithin cX4_isWithin 3 (some .boolean), Cond.methodLink RX4 152 yX4_wetAfter, Cond.instanceMethod yX4_wetAfter, Cond.selects RX4 yX4_wetAfter yX4_wetAfter, Cond.code yX4_wetAfter cX4_wetAfter 3 (some .int)]
def wsL_advise_r2 : List Cond := [Cond.fieldLink RX4 16 "UmbrellaLand" "ahead" "LUmbrellaLand$Republic;", Cond.methodLink RX4 136 yX1_becomeLike, Cond.instanceMethod yX1_becomeLike, Cond.selects RX1 yX1_becomeLike yX1_becomeLike, Cond.initialized RX1, Cond.code yX1_becomeLike cX1_becomeLike 3 none, Cond.fieldLink RX1 9 "UmbrellaLand$Republic" "rain" "[I", Cond.methodLink RX1 36 arraycopyName, Cond.native arraycopyName, Cond.static arraycopyName, Cond.initialized "java/lang/System", Cond.fieldLink RX1 42 "UmbrellaLand$Republic" "hour" "I", Cond.fieldLink RX1 46 "UmbrellaLand$Republic" "shelterCount" "I", Cond.fieldLink RX1 49 "UmbrellaLand$Republic" "umbrellaCount" "I", Cond.fieldLink RX1 52 "UmbrellaLand$Republic" "citizenCount" "I", Cond.fieldLink RX1 55 "UmbrellaLand$Republic" "carried" "I", Cond.fieldLink RX1 17 "UmbrellaLand$Republic" "shelters" "[LUmbrellaLand$Shelter;", Cond.fieldLink RX1 23 "UmbrellaLand$Republic" "umbrellas" "[LUmbrellaLand$Umbrella;", Cond.fieldLink RX1 29 "UmbrellaLand$Republic" "citizens" "[LUmbrellaLand$Citizen;", Cond.methodLink RX1 58 yX2_becomeLike, Cond.instanceMethod yX2_becomeLike, Cond.selects RX2 yX2_becomeLike yX2_becomeLike, Cond.initialized RX2, Cond.code yX2_becomeLike cX2_becomeLike 2 none]
def wsL_advise_r3 : List Cond := [Cond.fieldLink RX2 9 "UmbrellaLand$Shelter" "place" "I", Cond.fieldLink RX2 15 "UmbrellaLand$Shelter" "demand" "I", Cond.fieldLink RX2 18 "UmbrellaLand$Shelter" "taken" "I", Cond.fieldLink RX2 21 "UmbrellaLand$Shelter" "forgotten" "I", Cond.fieldLink RX2 24 "UmbrellaLand$Shelter" "refused" "I", Cond.fieldLink RX2 27 "UmbrellaLand$Shelter" "forgottenToday" "I", Cond.fieldLink RX2 30 "UmbrellaLand$Shelter" "refusedToday" "I", Cond.methodLink RX1 62 yX3_becomeLike, Cond.instanceMethod yX3_becomeLike, Cond.selects RX3 yX3_becomeLike yX3_becomeLike, Cond.initialized RX3, Cond.code yX3_becomeLike cX3_becomeLike 2 none, Cond.fieldLink RX3 25 "UmbrellaLand$Umbrella" "state" "I", Cond.fieldLink RX3 28 "UmbrellaLand$Umbrella" "holder" "I", Cond.fieldLink RX3 9 "UmbrellaLand$Umbrella" "wear" "I", Cond.fieldLink RX3 31 "UmbrellaLand$Umbrella" "waits" "I", Cond.fieldLink RX3 15 "UmbrellaLand$Umbrella" "taken" "I", Cond.fieldLink RX3 18 "UmbrellaLand$Umbrella" "takenFrom" "I", Cond.methodLink RX1 65 yX0_becomeLike, Cond.instanceMethod yX0_becomeLike, Cond.selects RX0 yX0_becomeLike yX0_becomeLike, Cond.initialized RX0, Cond.code yX0_becomeLike cX0_becomeLike 2 none, Cond.fieldLink RX0 9 "UmbrellaLand$Citizen" "home" "I"]
def wsL_advise_r4 : List Cond := [Cond.fieldLink RX0 15 "UmbrellaLand$Citizen" "work" "I", Cond.fieldLink RX0 33 "UmbrellaLand$Citizen" "leaves" "I", Cond.fieldLink RX0 36 "UmbrellaLand$Citizen" "returns" "I", Cond.fieldLink RX0 39 "UmbrellaLand$Citizen" "forgets" "I", Cond.fieldLink RX0 18 "UmbrellaLand$Citizen" "hoursOfWalk" "I", Cond.fieldLink RX0 21 "UmbrellaLand$Citizen" "stays" "I", Cond.fieldLink RX0 24 "UmbrellaLand$Citizen" "goal" "I", Cond.fieldLink RX0 42 "UmbrellaLand$Citizen" "hoursToWalk" "I", Cond.fieldLink RX0 27 "UmbrellaLand$Citizen" "inHand" "I", Cond.fieldLink RX0 30 "UmbrellaLand$Citizen" "trust" "I", Cond.fieldLink RX0 45 "UmbrellaLand$Citizen" "wet" "I", Cond.fieldLink RX0 48 "UmbrellaLand$Citizen" "taken" "I", Cond.fieldLink RX0 51 "UmbrellaLand$Citizen" "forgotten" "I", Cond.fieldLink RX0 54 "UmbrellaLand$Citizen" "refused" "I", Cond.methodLink RX4 58 yX1_addUmbrella, Cond.instanceMethod yX1_addUmbrella, Cond.selects RX1 yX1_addUmbrella yX1_addUmbrella, Cond.code yX1_addUmbrella cX1_addUmbrella 2 none, Cond.methodLink RX1 75 yX3_beNewIn, Cond.instanceMethod yX3_beNewIn, Cond.selects RX3 yX3_beNewIn yX3_beNewIn, Cond.code yX3_beNewIn cX3_beNewIn 2 none, Cond.methodLink RX3 21 yX3_standIn, Cond.instanceMethod yX3_standIn]
def wsL_advise_r5 : List Cond := [Cond.selects RX3 yX3_standIn yX3_standIn, Cond.code yX3_standIn cX3_standIn 2 none, Cond.methodLink RX4 133 yX1_letGoBy, Cond.instanceMethod yX1_letGoBy, Cond.selects RX1 yX1_letGoBy yX1_letGoBy, Cond.code yX1_letGoBy cX1_letGoBy 5 (some .int), Cond.methodLink RX1 109 yJ9_floorMod_7cf53, Cond.static yJ9_floorMod_7cf53, Cond.initialized RJ9, Cond.code yJ9_floorMod_7cf53 cJ9_floorMod_7cf53 3 (some .int), Cond.methodLink RX1 112 yX1_letUmbrellasWait, Cond.instanceMethod yX1_letUmbrellasWait, Cond.selects RX1 yX1_letUmbrellasWait yX1_letUmbrellasWait, Cond.code yX1_letUmbrellasWait cX1_letUmbrellasWait 2 none, Cond.methodLink RX1 127 yX3_waitAnHour, Cond.instanceMethod yX3_waitAnHour, Cond.selects RX3 yX3_waitAnHour yX3_waitAnHour, Cond.code yX3_waitAnHour cX3_waitAnHour 1 none, Cond.methodLink RX1 115 yX1_letCitizensLeave, Cond.instanceMethod yX1_letCitizensLeave, Cond.selects RX1 yX1_letCitizensLeave yX1_letCitizensLeave, Cond.code yX1_letCitizensLeave cX1_letCitizensLeave 5 (some .int), Cond.methodLink RX1 130 yX0_leavesAt, Cond.instanceMethod yX0_leavesAt]
def wsL_advise_r6 : List Cond := [Cond.selects RX0 yX0_leavesAt yX0_leavesAt, Cond.code yX0_leavesAt cX0_leavesAt 2 (some .boolean), Cond.methodLink RX1 133 yX1_takeUmbrella, Cond.instanceMethod yX1_takeUmbrella, Cond.selects RX1 yX1_takeUmbrella yX1_takeUmbrella, Cond.code yX1_takeUmbrella cX1_takeUmbrella 5 (some .boolean), Cond.fieldLink RX1 139 "UmbrellaLand$Citizen" "stays" "I", Cond.fieldLink RX1 145 "UmbrellaLand$Citizen" "trust" "I", Cond.fieldLink RX1 148 "UmbrellaLand$Shelter" "demand" "I", Cond.fieldLink RX1 154 "UmbrellaLand$Citizen" "refused" "I", Cond.fieldLink RX1 163 "UmbrellaLand$Citizen" "inHand" "I", Cond.fieldLink RX1 166 "UmbrellaLand$Citizen" "taken" "I", Cond.fieldLink RX1 169 "UmbrellaLand$Shelter" "taken" "I", Cond.methodLink RX1 96 yX1_isShelter, Cond.instanceMethod yX1_isShelter, Cond.selects RX1 yX1_isShelter yX1_isShelter, Cond.code yX1_isShelter cX1_isShelter 2 (some .boolean), Cond.methodLink RX1 142 yX1_firstUmbrellaIn, Cond.instanceMethod yX1_firstUmbrellaIn, Cond.selects RX1 yX1_firstUmbrellaIn yX1_firstUmbrellaIn, Cond.code yX1_firstUmbrellaIn cX1_firstUmbrellaIn 5 (some .int), Cond.fieldLink RX1 183 "UmbrellaLand$Umbrella" "wear" "I", Cond.methodLink RX1 213 yX3_standsIn, Cond.instanceMethod yX3_standsIn]
def wsL_advise_r7 : List Cond := [Cond.selects RX3 yX3_standsIn yX3_standsIn, Cond.code yX3_standsIn cX3_standsIn 2 (some .boolean), Cond.methodLink RX1 151 yX1_isUmbrella, Cond.instanceMethod yX1_isUmbrella, Cond.selects RX1 yX1_isUmbrella yX1_isUmbrella, Cond.code yX1_isUmbrella cX1_isUmbrella 2 (some .boolean), Cond.methodLink RX1 157 yX2_noteRefusal, Cond.instanceMethod yX2_noteRefusal, Cond.selects RX2 yX2_noteRefusal yX2_noteRefusal, Cond.code yX2_noteRefusal cX2_noteRefusal 1 none, Cond.methodLink RX1 160 yX3_goWith, Cond.instanceMethod yX3_goWith, Cond.selects RX3 yX3_goWith yX3_goWith, Cond.code yX3_goWith cX3_goWith 2 none, Cond.methodLink RX1 136 yX0_setOut, Cond.instanceMethod yX0_setOut, Cond.selects RX0 yX0_setOut yX0_setOut, Cond.code yX0_setOut cX0_setOut 1 none, Cond.methodLink RX1 118 yX1_letCitizensWalk, Cond.instanceMethod yX1_letCitizensWalk, Cond.selects RX1 yX1_letCitizensWalk yX1_letCitizensWalk, Cond.code yX1_letCitizensWalk cX1_letCitizensWalk 4 none, Cond.fieldLink RX1 170 "UmbrellaLand$Citizen" "hoursToWalk" "I", Cond.methodLink RX1 173 yX1_meetRain]
def wsL_advise_r8 : List Cond := [Cond.instanceMethod yX1_meetRain, Cond.selects RX1 yX1_meetRain yX1_meetRain, Cond.code yX1_meetRain cX1_meetRain 4 none, Cond.fieldLink RX1 180 "UmbrellaLand$Citizen" "wet" "I", Cond.methodLink RX1 186 yX3_stayAway, Cond.instanceMethod yX3_stayAway, Cond.selects RX3 yX3_stayAway yX3_stayAway, Cond.code yX3_stayAway cX3_stayAway 3 none, Cond.methodLink RX1 177 yX1_arrive, Cond.instanceMethod yX1_arrive, Cond.selects RX1 yX1_arrive yX1_arrive, Cond.code yX1_arrive cX1_arrive 3 none, Cond.fieldLink RX1 189 "UmbrellaLand$Citizen" "goal" "I", Cond.fieldLink RX1 205 "UmbrellaLand$Umbrella" "takenFrom" "I", Cond.methodLink RX1 192 yX0_forgetsThisOne, Cond.instanceMethod yX0_forgetsThisOne, Cond.selects RX0 yX0_forgetsThisOne yX0_forgetsThisOne, Cond.code yX0_forgetsThisOne cX0_forgetsThisOne 1 (some .boolean), Cond.methodLink RX1 196 yX3_standIn, Cond.methodLink RX1 199 yX0_noteBroughtBack, Cond.instanceMethod yX0_noteBroughtBack, Cond.selects RX0 yX0_noteBroughtBack yX0_noteBroughtBack, Cond.code yX0_noteBroughtBack cX0_noteBroughtBack 1 none, Cond.methodLink RX0 63 Lib.Math.min.name]
def wsL_advise_r9 : List Cond := [Cond.static Lib.Math.min.name, Cond.initialized "java/lang/Math", Cond.code Lib.Math.min.name Lib.Math.min.code 2 (some .int), Cond.methodLink RX1 202 yX0_noteForgotten, Cond.instanceMethod yX0_noteForgotten, Cond.selects RX0 yX0_noteForgotten yX0_noteForgotten, Cond.code yX0_noteForgotten cX0_noteForgotten 1 none, Cond.methodLink RX0 57 Lib.Math.max.name, Cond.static Lib.Math.max.name, Cond.code Lib.Math.max.name Lib.Math.max.code 2 (some .int), Cond.methodLink RX1 208 yX2_noteForgotten, Cond.instanceMethod yX2_noteForgotten, Cond.selects RX2 yX2_noteForgotten yX2_noteForgotten, Cond.code yX2_noteForgotten cX2_noteForgotten 1 none, Cond.methodLink RX1 121 yX1_driveCart, Cond.instanceMethod yX1_driveCart, Cond.selects RX1 yX1_driveCart yX1_driveCart, Cond.code yX1_driveCart cX1_driveCart 4 none, Cond.methodLink RX1 209 yX1_umbrellasIn, Cond.instanceMethod yX1_umbrellasIn, Cond.selects RX1 yX1_umbrellasIn yX1_umbrellasIn, Cond.code yX1_umbrellasIn cX1_umbrellasIn 4 (some .int), Cond.methodLink RX1 124 yX1_endDay, Cond.instanceMethod yX1_endDay]
def wsL_advise_r10 : List Cond := [Cond.selects RX1 yX1_endDay yX1_endDay, Cond.code yX1_endDay cX1_endDay 2 none, Cond.methodLink RX1 212 yX2_endDay, Cond.instanceMethod yX2_endDay, Cond.selects RX2 yX2_endDay yX2_endDay, Cond.code yX2_endDay cX2_endDay 1 none, Cond.methodLink RX2 33 Lib.Math.min.name, Cond.methodLink RX2 39 Lib.Math.max.name, Cond.methodLink RX4 140 yX1_wetOfAll, Cond.instanceMethod yX1_wetOfAll, Cond.selects RX1 yX1_wetOfAll yX1_wetOfAll, Cond.code yX1_wetOfAll cX1_wetOfAll 3 (some .int)]
def wsL_advise : List Cond := .codeWith yL_advise cL_advise 4 (some .int) [(0, 9, 12, 13), (0, 9, 15, 15)] :: ((wsL_advise_r1 ++ (wsL_advise_r2 ++ (wsL_advise_r3 ++ (wsL_advise_r4 ++ (wsL_advise_r5 ++ (wsL_advise_r6 ++ (wsL_advise_r7 ++ (wsL_advise_r8 ++ (wsL_advise_r9 ++ wsL_advise_r10))))))))) ++ wsX40 ++ wsX10 ++ wsX20 ++ wsX30 ++ wsX00 ++ (vx_atS RX4 42 "java/lang/IllegalStateException" ["java/lang/RuntimeException", "java/lang/Exception"]).filter goodWord ++ (vx_atS RX4 27 "java/lang/IllegalArgumentException" ["java/lang/RuntimeException", "java/lang/Exception"]).filter goodWord)
def wsL_wouldGet_r1 : List Cond := [Cond.classLink RL 20 "java/lang/IndexOutOfBoundsException", Cond.methodLink RL 54 yX4_wouldGet, Cond.instanceMethod yX4_wouldGet, Cond.selects RX4 yX4_wouldGet yX4_wouldGet, Cond.initialized RX4, Cond.code yX4_wouldGet cX4_wouldGet 3 (some .boolean), Cond.fieldLink RX4 10 "UmbrellaLand" "now" "LUmbrellaLand$Republic;", Cond.fieldLink RX4 120 "UmbrellaLand$Republic" "citizens" "[LUmbrellaLand$Citizen;", Cond.fieldLink RX4 155 "UmbrellaLand$Citizen" "trust" "I", Cond.fieldLink RX4 88 "UmbrellaLand$Republic" "shelters" "[LUmbrellaLand$Shelter;", Cond.fieldLink RX4 92 "UmbrellaLand$Shelter" "demand" "I", Cond.methodLink RX4 117 yX4_checkCitizen, Cond.instanceMethod yX4_checkCitizen, Cond.selects RX4 yX4_checkCitizen yX4_checkCitizen, Cond.code yX4_checkCitizen cX4_checkCitizen 2 none, Cond.classLink RX4 179 "java/lang/IndexOutOfBoundsException", Cond.initialized "java/lang/IndexOutOfBoundsException", Cond.methodLink RX4 189 yX1_isCitizen, Cond.instanceMethod yX1_isCitizen, Cond.selects RX1 yX1_isCitizen yX1_isCitizen, Cond.initialized RX1, Cond.code yX1_isCitizen cX1_isCitizen 2 (some .boolean), Cond.fieldLink RX1 52 "UmbrellaLand$Republic" "citizenCount" "I", Cond.methodLink RX4 47 yX4_checkShelter]
def wsL_wouldGet_r2 : List Cond := [Cond.instanceMethod yX4_checkShelter, Cond.selects RX4 yX4_checkShelter yX4_checkShelter, Cond.code yX4_checkShelter cX4_checkShelter 2 none, Cond.methodLink RX4 176 yX1_isShelter, Cond.instanceMethod yX1_isShelter, Cond.selects RX1 yX1_isShelter yX1_isShelter, Cond.code yX1_isShelter cX1_isShelter 2 (some .boolean), Cond.fieldLink RX1 46 "UmbrellaLand$Republic" "shelterCount" "I", Cond.methodLink RX4 158 yX1_firstUmbrellaIn, Cond.instanceMethod yX1_firstUmbrellaIn, Cond.selects RX1 yX1_firstUmbrellaIn yX1_firstUmbrellaIn, Cond.code yX1_firstUmbrellaIn cX1_firstUmbrellaIn 5 (some .int), Cond.fieldLink RX1 49 "UmbrellaLand$Republic" "umbrellaCount" "I", Cond.fieldLink RX1 23 "UmbrellaLand$Republic" "umbrellas" "[LUmbrellaLand$Umbrella;", Cond.fieldLink RX1 183 "UmbrellaLand$Umbrella" "wear" "I", Cond.methodLink RX1 213 yX3_standsIn, Cond.instanceMethod yX3_standsIn, Cond.selects RX3 yX3_standsIn yX3_standsIn, Cond.initialized RX3, Cond.code yX3_standsIn cX3_standsIn 2 (some .boolean), Cond.fieldLink RX3 25 "UmbrellaLand$Umbrella" "state" "I", Cond.fieldLink RX3 28 "UmbrellaLand$Umbrella" "holder" "I"]
def wsL_wouldGet : List Cond := .codeWith yL_wouldGet cL_wouldGet 5 (some .int) [(0, 17, 20, 20)] :: ((wsL_wouldGet_r1 ++ wsL_wouldGet_r2) ++ wsX40 ++ wsX10 ++ wsX00 ++ wsX20 ++ wsX30 ++ (vx_atS RX4 183 "java/lang/IndexOutOfBoundsException" ["java/lang/RuntimeException", "java/lang/Exception"]).filter goodWord)
def wsL_lasts_r1 : List Cond := [Cond.classLink RL 20 "java/lang/IndexOutOfBoundsException", Cond.methodLink RL 58 yX4_lasts, Cond.instanceMethod yX4_lasts, Cond.selects RX4 yX4_lasts yX4_lasts, Cond.initialized RX4, Cond.code yX4_lasts cX4_lasts 5 (some .int), Cond.fieldLink RX4 10 "UmbrellaLand" "now" "LUmbrellaLand$Republic;", Cond.fieldLink RX4 107 "UmbrellaLand$Republic" "umbrellas" "[LUmbrellaLand$Umbrella;", Cond.fieldLink RX4 161 "UmbrellaLand$Umbrella" "state" "I", Cond.fieldLink RX4 164 "UmbrellaLand$Umbrella" "wear" "I", Cond.fieldLink RX4 82 "UmbrellaLand$Republic" "rain" "[I", Cond.methodLink RX4 104 yX4_checkUmbrella, Cond.instanceMethod yX4_checkUmbrella, Cond.selects RX4 yX4_checkUmbrella yX4_checkUmbrella, Cond.code yX4_checkUmbrella cX4_checkUmbrella 2 none, Cond.classLink RX4 179 "java/lang/IndexOutOfBoundsException", Cond.initialized "java/lang/IndexOutOfBoundsException", Cond.methodLink RX4 184 yX1_isUmbrella, Cond.instanceMethod yX1_isUmbrella, Cond.selects RX1 yX1_isUmbrella yX1_isUmbrella, Cond.initialized RX1, Cond.code yX1_isUmbrella cX1_isUmbrella 2 (some .boolean), Cond.fieldLink RX1 49 "UmbrellaLand$Republic" "umbrellaCount" "I", Cond.methodLink RX4 77 yX4_checkHourOfDay]
def wsL_lasts_r2 : List Cond := [Cond.static yX4_checkHourOfDay, Cond.code yX4_checkHourOfDay cX4_checkHourOfDay 1 none, Cond.methodLink RX4 63 yX4_isHourOfDay, Cond.static yX4_isHourOfDay, Cond.code yX4_isHourOfDay cX4_isHourOfDay 1 (some .boolean), Cond.methodLink RX4 19 yX4_isWithin, Cond.static yX4_isWithin, Cond.code yX4_isWithin cX4_isWithin 3 (some .boolean), Cond.methodLink RX4 167 yJ9_floorMod_7cf53, Cond.static yJ9_floorMod_7cf53, Cond.initialized RJ9, Cond.code yJ9_floorMod_7cf53 cJ9_floorMod_7cf53 3 (some .int)]
def wsL_lasts : List Cond := .codeWith yL_lasts cL_lasts 5 (some .int) [(0, 10, 13, 20)] :: ((wsL_lasts_r1 ++ wsL_lasts_r2) ++ wsX40 ++ wsX10 ++ wsX30 ++ (vx_atS RX4 183 "java/lang/IndexOutOfBoundsException" ["java/lang/RuntimeException", "java/lang/Exception"]).filter goodWord)
def wsL_law0_r1 : List Cond := [Cond.classLink RL 8 RX4, Cond.instantiable RX4 2, Cond.initialized RX4, Cond.classLink RL 62 RX6, Cond.instantiable RX6 4, Cond.initialized RX6, Cond.arrayClass .long, Cond.methodLink RL 61 yX4_init, Cond.instanceMethod yX4_init, Cond.code yX4_init cX4_init 1 none, Cond.methodLink RX4 1 objectInit, Cond.instanceMethod objectInit, Cond.code objectInit ⟨#[0xb1]⟩ 1 none, Cond.classLink RX4 7 RX1, Cond.instantiable RX1 9, Cond.initialized RX1, Cond.fieldLink RX4 10 "UmbrellaLand" "now" "LUmbrellaLand$Republic;", Cond.fieldLink RX4 16 "UmbrellaLand" "ahead" "LUmbrellaLand$Republic;", Cond.methodLink RX4 9 yX1_init, Cond.instanceMethod yX1_init, Cond.code yX1_init cX1_init 2 none, Cond.methodLink RX1 3 objectInit, Cond.arrayClass .int, Cond.fieldLink RX1 9 "UmbrellaLand$Republic" "rain" "[I"]
def wsL_law0_r2 : List Cond := [Cond.classLink RX1 15 RX2, Cond.fieldLink RX1 17 "UmbrellaLand$Republic" "shelters" "[LUmbrellaLand$Shelter;", Cond.classLink RX1 21 RX3, Cond.fieldLink RX1 23 "UmbrellaLand$Republic" "umbrellas" "[LUmbrellaLand$Umbrella;", Cond.classLink RX1 27 RX0, Cond.fieldLink RX1 29 "UmbrellaLand$Republic" "citizens" "[LUmbrellaLand$Citizen;", Cond.instantiable RX2 7, Cond.initialized RX2, Cond.instantiable RX3 6, Cond.initialized RX3, Cond.instantiable RX0 15, Cond.initialized RX0, Cond.instanceMethod yX2_init, Cond.code yX2_init cX2_init 1 none, Cond.methodLink RX2 3 objectInit, Cond.instanceMethod yX3_init, Cond.code yX3_init cX3_init 1 none, Cond.methodLink RX3 3 objectInit, Cond.instanceMethod yX0_init, Cond.code yX0_init cX0_init 1 none, Cond.methodLink RX0 3 objectInit, Cond.methodLink RL 64 yX6_init, Cond.instanceMethod yX6_init, Cond.code yX6_init cX6_init 1 none]
def wsL_law0_r3 : List Cond := [Cond.methodLink RX6 1 objectInit, Cond.fieldLink RX6 9 "UmbrellaLandModel" "rain" "[I", Cond.classLink RX6 13 RX5, Cond.instantiable RX5 22, Cond.initialized RX5, Cond.fieldLink RX6 18 "UmbrellaLandModel" "s" "LUmbrellaLandModel$State;", Cond.fieldLink RX6 22 "UmbrellaLandModel" "ahead" "LUmbrellaLandModel$State;", Cond.instanceMethod yX5_init, Cond.code yX5_init cX5_init 2 none, Cond.fieldLink RX5 3 "UmbrellaLandModel$State" "this$0" "LUmbrellaLandModel;", Cond.methodLink RX5 9 objectInit, Cond.fieldLink RX5 15 "UmbrellaLandModel$State" "place" "[I", Cond.fieldLink RX5 19 "UmbrellaLandModel$State" "demand" "[I", Cond.fieldLink RX5 22 "UmbrellaLandModel$State" "told" "[I", Cond.fieldLink RX5 25 "UmbrellaLandModel$State" "kind" "[I", Cond.fieldLink RX5 28 "UmbrellaLandModel$State" "at" "[I", Cond.fieldLink RX5 31 "UmbrellaLandModel$State" "wear" "[I", Cond.fieldLink RX5 34 "UmbrellaLandModel$State" "waits" "[I", Cond.fieldLink RX5 37 "UmbrellaLandModel$State" "taken" "[I", Cond.fieldLink RX5 40 "UmbrellaLandModel$State" "from" "[I", Cond.fieldLink RX5 43 "UmbrellaLandModel$State" "citizen" "[I", Cond.fieldLink RX5 46 "UmbrellaLandModel$State" "is" "[I", Cond.fieldLink RX5 49 "UmbrellaLandModel$State" "to" "[I", Cond.fieldLink RX5 52 "UmbrellaLandModel$State" "left" "[I"]
def wsL_law0_r4 : List Cond := [Cond.fieldLink RX5 55 "UmbrellaLandModel$State" "holds" "[I", Cond.fieldLink RX5 58 "UmbrellaLandModel$State" "trust" "[I", Cond.fieldLink RX5 61 "UmbrellaLandModel$State" "own" "[I", Cond.methodLink RL 65 yL_build, Cond.static yL_build, Cond.initialized RL, Cond.codeWith yL_build cL_build 5 (some .int) [(0, 10, 13, 13), (0, 10, 17, 15)], Cond.classLink RL 13 "java/lang/IllegalArgumentException", Cond.classLink RL 15 "java/lang/IllegalStateException", Cond.methodLink RL 7 yX4_build, Cond.instanceMethod yX4_build, Cond.selects RX4 yX4_build yX4_build, Cond.code yX4_build cX4_build 3 (some .int), Cond.classLink RX4 23 "java/lang/IllegalArgumentException", Cond.initialized "java/lang/IllegalArgumentException", Cond.classLink RX4 38 "java/lang/IllegalStateException", Cond.initialized "java/lang/IllegalStateException", Cond.fieldLink RX4 30 "UmbrellaLand$Republic" "shelterCount" "I", Cond.methodLink RX4 19 yX4_isWithin, Cond.static yX4_isWithin, Cond.code yX4_isWithin cX4_isWithin 3 (some .boolean), Cond.methodLink RX4 34 yX1_isBuiltOn, Cond.instanceMethod yX1_isBuiltOn, Cond.selects RX1 yX1_isBuiltOn yX1_isBuiltOn]
def wsL_law0_r5 : List Cond := [Cond.code yX1_isBuiltOn cX1_isBuiltOn 3 (some .boolean), Cond.fieldLink RX1 46 "UmbrellaLand$Republic" "shelterCount" "I", Cond.fieldLink RX1 68 "UmbrellaLand$Shelter" "place" "I", Cond.methodLink RX4 43 yX1_addShelter, Cond.instanceMethod yX1_addShelter, Cond.selects RX1 yX1_addShelter yX1_addShelter, Cond.code yX1_addShelter cX1_addShelter 3 (some .int), Cond.methodLink RX1 71 yX2_open, Cond.instanceMethod yX2_open, Cond.selects RX2 yX2_open yX2_open, Cond.code yX2_open cX2_open 3 none, Cond.fieldLink RX2 9 "UmbrellaLand$Shelter" "place" "I", Cond.fieldLink RX2 15 "UmbrellaLand$Shelter" "demand" "I", Cond.methodLink RL 70 yX6_build, Cond.instanceMethod yX6_build, Cond.selects RX6 yX6_build yX6_build, Cond.code yX6_build cX6_build 5 (some .int), Cond.fieldLink RX6 25 "UmbrellaLandModel" "thrown" "I", Cond.methodLink RX6 32 yX6_isIn, Cond.static yX6_isIn, Cond.code yX6_isIn cX6_isIn 3 (some .boolean), Cond.methodLink RX6 39 yX6_no, Cond.instanceMethod yX6_no, Cond.selects RX6 yX6_no yX6_no]
def wsL_law0_r6 : List Cond := [Cond.code yX6_no cX6_no 2 (some .int), Cond.methodLink RL 71 yX6_thrown, Cond.instanceMethod yX6_thrown, Cond.selects RX6 yX6_thrown yX6_thrown, Cond.code yX6_thrown cX6_thrown 1 (some .int), Cond.methodLink RL 75 yL_bring, Cond.static yL_bring, Cond.codeWith yL_bring cL_bring 5 (some .int) [(0, 10, 13, 20), (0, 10, 17, 13), (0, 10, 21, 15)], Cond.classLink RL 20 "java/lang/IndexOutOfBoundsException", Cond.methodLink RL 17 yX4_bring, Cond.instanceMethod yX4_bring, Cond.selects RX4 yX4_bring yX4_bring, Cond.code yX4_bring cX4_bring 4 (some .int), Cond.fieldLink RX4 53 "UmbrellaLand$Republic" "umbrellaCount" "I", Cond.methodLink RX4 47 yX4_checkShelter, Cond.instanceMethod yX4_checkShelter, Cond.selects RX4 yX4_checkShelter yX4_checkShelter, Cond.code yX4_checkShelter cX4_checkShelter 2 none, Cond.classLink RX4 179 "java/lang/IndexOutOfBoundsException", Cond.initialized "java/lang/IndexOutOfBoundsException", Cond.methodLink RX4 176 yX1_isShelter, Cond.instanceMethod yX1_isShelter, Cond.selects RX1 yX1_isShelter yX1_isShelter, Cond.code yX1_isShelter cX1_isShelter 2 (some .boolean)]
def wsL_law0_r7 : List Cond := [Cond.methodLink RX4 58 yX1_addUmbrella, Cond.instanceMethod yX1_addUmbrella, Cond.selects RX1 yX1_addUmbrella yX1_addUmbrella, Cond.code yX1_addUmbrella cX1_addUmbrella 2 none, Cond.fieldLink RX1 49 "UmbrellaLand$Republic" "umbrellaCount" "I", Cond.methodLink RX1 75 yX3_beNewIn, Cond.instanceMethod yX3_beNewIn, Cond.selects RX3 yX3_beNewIn yX3_beNewIn, Cond.code yX3_beNewIn cX3_beNewIn 2 none, Cond.fieldLink RX3 9 "UmbrellaLand$Umbrella" "wear" "I", Cond.fieldLink RX3 15 "UmbrellaLand$Umbrella" "taken" "I", Cond.fieldLink RX3 18 "UmbrellaLand$Umbrella" "takenFrom" "I", Cond.methodLink RX3 21 yX3_standIn, Cond.instanceMethod yX3_standIn, Cond.selects RX3 yX3_standIn yX3_standIn, Cond.code yX3_standIn cX3_standIn 2 none, Cond.fieldLink RX3 25 "UmbrellaLand$Umbrella" "state" "I", Cond.fieldLink RX3 28 "UmbrellaLand$Umbrella" "holder" "I", Cond.fieldLink RX3 31 "UmbrellaLand$Umbrella" "waits" "I", Cond.methodLink RL 77 yX6_bring, Cond.instanceMethod yX6_bring, Cond.selects RX6 yX6_bring yX6_bring, Cond.code yX6_bring cX6_bring 4 (some .int), Cond.methodLink RX6 49 yX6_isShelter]
def wsL_law0_r8 : List Cond := [Cond.instanceMethod yX6_isShelter, Cond.selects RX6 yX6_isShelter yX6_isShelter, Cond.code yX6_isShelter cX6_isShelter 2 (some .boolean), Cond.methodLink RX6 56 yX5_bring, Cond.instanceMethod yX5_bring, Cond.selects RX5 yX5_bring yX5_bring, Cond.code yX5_bring cX5_bring 2 none, Cond.fieldLink RX5 77 "UmbrellaLandModel$State" "umbrellas" "I", Cond.methodLink RL 78 yL_addCitizen, Cond.static yL_addCitizen, Cond.codeWith yL_addCitizen cL_addCitizen 8 (some .int) [(0, 16, 19, 20), (0, 16, 23, 13), (0, 16, 27, 15)], Cond.methodLink RL 22 yX4_addCitizen, Cond.instanceMethod yX4_addCitizen, Cond.selects RX4 yX4_addCitizen yX4_addCitizen, Cond.code yX4_addCitizen cX4_addCitizen 6 (some .int), Cond.fieldLink RX4 68 "UmbrellaLand$Republic" "citizenCount" "I", Cond.methodLink RX4 63 yX4_isHourOfDay, Cond.static yX4_isHourOfDay, Cond.code yX4_isHourOfDay cX4_isHourOfDay 1 (some .boolean), Cond.methodLink RX4 73 yX1_addPerson, Cond.instanceMethod yX1_addPerson, Cond.selects RX1 yX1_addPerson yX1_addPerson, Cond.code yX1_addPerson cX1_addPerson 7 (some .int), Cond.fieldLink RX1 52 "UmbrellaLand$Republic" "citizenCount" "I"]
def wsL_law0_r9 : List Cond := [Cond.fieldLink RX1 87 "UmbrellaLand$Citizen" "leaves" "I", Cond.fieldLink RX1 90 "UmbrellaLand$Citizen" "returns" "I", Cond.fieldLink RX1 93 "UmbrellaLand$Citizen" "forgets" "I", Cond.methodLink RX1 79 yX1_hoursBetween, Cond.instanceMethod yX1_hoursBetween, Cond.selects RX1 yX1_hoursBetween yX1_hoursBetween, Cond.code yX1_hoursBetween cX1_hoursBetween 3 (some .int), Cond.methodLink RX1 100 Lib.Math.abs.name, Cond.static Lib.Math.abs.name, Cond.initialized "java/lang/Math", Cond.code Lib.Math.abs.name Lib.Math.abs.code 1 (some .int), Cond.methodLink RX1 106 Lib.Math.max.name, Cond.static Lib.Math.max.name, Cond.code Lib.Math.max.name Lib.Math.max.code 2 (some .int), Cond.methodLink RX1 96 yX1_isShelter, Cond.methodLink RX1 83 yX0_settle, Cond.instanceMethod yX0_settle, Cond.selects RX0 yX0_settle yX0_settle, Cond.code yX0_settle cX0_settle 4 none, Cond.fieldLink RX0 9 "UmbrellaLand$Citizen" "home" "I", Cond.fieldLink RX0 15 "UmbrellaLand$Citizen" "work" "I", Cond.fieldLink RX0 18 "UmbrellaLand$Citizen" "hoursOfWalk" "I", Cond.fieldLink RX0 21 "UmbrellaLand$Citizen" "stays" "I", Cond.fieldLink RX0 24 "UmbrellaLand$Citizen" "goal" "I"]
def wsL_law0_r10 : List Cond := [Cond.fieldLink RX0 27 "UmbrellaLand$Citizen" "inHand" "I", Cond.fieldLink RX0 30 "UmbrellaLand$Citizen" "trust" "I", Cond.methodLink RL 81 yX6_addCitizen, Cond.instanceMethod yX6_addCitizen, Cond.selects RX6 yX6_addCitizen yX6_addCitizen, Cond.code yX6_addCitizen cX6_addCitizen 7 (some .int), Cond.methodLink RX6 63 arraycopyName, Cond.native arraycopyName, Cond.static arraycopyName, Cond.initialized "java/lang/System", Cond.methodLink RL 82 yL_setRain, Cond.static yL_setRain, Cond.codeWith yL_setRain cL_setRain 5 (some .int) [(0, 10, 13, 20), (0, 10, 17, 13)], Cond.methodLink RL 26 yX4_setRain, Cond.instanceMethod yX4_setRain, Cond.selects RX4 yX4_setRain yX4_setRain, Cond.code yX4_setRain cX4_setRain 4 (some .int), Cond.fieldLink RX4 82 "UmbrellaLand$Republic" "rain" "[I", Cond.methodLink RX4 77 yX4_checkHourOfDay, Cond.static yX4_checkHourOfDay, Cond.code yX4_checkHourOfDay cX4_checkHourOfDay 1 none, Cond.methodLink RL 84 yX6_setRain, Cond.instanceMethod yX6_setRain, Cond.selects RX6 yX6_setRain yX6_setRain]
def wsL_law0_r11 : List Cond := [Cond.code yX6_setRain cX6_setRain 4 (some .int), Cond.methodLink RL 85 yL_setDemand, Cond.static yL_setDemand, Cond.codeWith yL_setDemand cL_setDemand 5 (some .int) [(0, 10, 13, 20), (0, 10, 17, 13)], Cond.methodLink RL 29 yX4_setDemand, Cond.instanceMethod yX4_setDemand, Cond.selects RX4 yX4_setDemand yX4_setDemand, Cond.code yX4_setDemand cX4_setDemand 4 (some .int), Cond.fieldLink RX4 88 "UmbrellaLand$Republic" "shelters" "[LUmbrellaLand$Shelter;", Cond.fieldLink RX4 92 "UmbrellaLand$Shelter" "demand" "I", Cond.methodLink RL 87 yX6_setDemand, Cond.instanceMethod yX6_setDemand, Cond.selects RX6 yX6_setDemand yX6_setDemand, Cond.code yX6_setDemand cX6_setDemand 4 (some .int), Cond.methodLink RL 88 yL_shelter, Cond.static yL_shelter, Cond.codeWith yL_shelter cL_shelter 5 (some .int) [(0, 10, 13, 20)], Cond.methodLink RL 32 yX4_shelter, Cond.instanceMethod yX4_shelter, Cond.selects RX4 yX4_shelter yX4_shelter, Cond.code yX4_shelter cX4_shelter 3 (some .int), Cond.methodLink RX4 97 yX4_checkWhat, Cond.static yX4_checkWhat, Cond.code yX4_checkWhat cX4_checkWhat 2 none]
def wsL_law0_r12 : List Cond := [Cond.methodLink RX4 101 yX1_tellShelter, Cond.instanceMethod yX1_tellShelter, Cond.selects RX1 yX1_tellShelter yX1_tellShelter, Cond.code yX1_tellShelter cX1_tellShelter 4 (some .int), Cond.fieldLink RX1 148 "UmbrellaLand$Shelter" "demand" "I", Cond.fieldLink RX1 169 "UmbrellaLand$Shelter" "taken" "I", Cond.fieldLink RX1 222 "UmbrellaLand$Shelter" "forgotten" "I", Cond.fieldLink RX1 225 "UmbrellaLand$Shelter" "refused" "I", Cond.methodLink RX1 209 yX1_umbrellasIn, Cond.instanceMethod yX1_umbrellasIn, Cond.selects RX1 yX1_umbrellasIn yX1_umbrellasIn, Cond.code yX1_umbrellasIn cX1_umbrellasIn 4 (some .int), Cond.methodLink RX1 213 yX3_standsIn, Cond.instanceMethod yX3_standsIn, Cond.selects RX3 yX3_standsIn yX3_standsIn, Cond.code yX3_standsIn cX3_standsIn 2 (some .boolean), Cond.methodLink RX1 219 yX1_citizensIn, Cond.instanceMethod yX1_citizensIn, Cond.selects RX1 yX1_citizensIn yX1_citizensIn, Cond.code yX1_citizensIn cX1_citizensIn 4 (some .int), Cond.fieldLink RX1 139 "UmbrellaLand$Citizen" "stays" "I", Cond.methodLink RX1 142 yX1_firstUmbrellaIn, Cond.instanceMethod yX1_firstUmbrellaIn, Cond.selects RX1 yX1_firstUmbrellaIn yX1_firstUmbrellaIn]
def wsL_law0_r13 : List Cond := [Cond.code yX1_firstUmbrellaIn cX1_firstUmbrellaIn 5 (some .int), Cond.fieldLink RX1 183 "UmbrellaLand$Umbrella" "wear" "I", Cond.methodLink RL 90 yX6_shelter, Cond.instanceMethod yX6_shelter, Cond.selects RX6 yX6_shelter yX6_shelter, Cond.code yX6_shelter cX6_shelter 3 (some .int), Cond.methodLink RX6 87 yX6_shelterTold, Cond.instanceMethod yX6_shelterTold, Cond.selects RX6 yX6_shelterTold yX6_shelterTold, Cond.code yX6_shelterTold cX6_shelterTold 5 (some .int), Cond.methodLink RX6 78 yX5_there, Cond.instanceMethod yX5_there, Cond.selects RX5 yX5_there yX5_there, Cond.code yX5_there cX5_there 4 (some .int), Cond.methodLink RX6 84 yX5_first, Cond.instanceMethod yX5_first, Cond.selects RX5 yX5_first yX5_first, Cond.code yX5_first cX5_first 4 (some .int), Cond.methodLink RL 91 yL_umbrella, Cond.static yL_umbrella, Cond.codeWith yL_umbrella cL_umbrella 5 (some .int) [(0, 10, 13, 20)], Cond.methodLink RL 35 yX4_umbrella, Cond.instanceMethod yX4_umbrella, Cond.selects RX4 yX4_umbrella yX4_umbrella]
def wsL_law0_r14 : List Cond := [Cond.code yX4_umbrella cX4_umbrella 3 (some .int), Cond.fieldLink RX4 107 "UmbrellaLand$Republic" "umbrellas" "[LUmbrellaLand$Umbrella;", Cond.methodLink RX4 104 yX4_checkUmbrella, Cond.instanceMethod yX4_checkUmbrella, Cond.selects RX4 yX4_checkUmbrella yX4_checkUmbrella, Cond.code yX4_checkUmbrella cX4_checkUmbrella 2 none, Cond.methodLink RX4 184 yX1_isUmbrella, Cond.instanceMethod yX1_isUmbrella, Cond.selects RX1 yX1_isUmbrella yX1_isUmbrella, Cond.code yX1_isUmbrella cX1_isUmbrella 2 (some .boolean), Cond.methodLink RX4 111 yX3_tell, Cond.instanceMethod yX3_tell, Cond.selects RX3 yX3_tell yX3_tell, Cond.code yX3_tell cX3_tell 2 (some .int), Cond.methodLink RL 93 yX6_umbrella, Cond.instanceMethod yX6_umbrella, Cond.selects RX6 yX6_umbrella yX6_umbrella, Cond.code yX6_umbrella cX6_umbrella 3 (some .int), Cond.methodLink RX6 109 yX6_umbrellaTold, Cond.instanceMethod yX6_umbrellaTold, Cond.selects RX6 yX6_umbrellaTold yX6_umbrellaTold, Cond.code yX6_umbrellaTold cX6_umbrellaTold 4 (some .int), Cond.methodLink RL 94 yL_citizen, Cond.static yL_citizen]
def wsL_law0_r15 : List Cond := [Cond.codeWith yL_citizen cL_citizen 5 (some .int) [(0, 10, 13, 20)], Cond.methodLink RL 38 yX4_citizen, Cond.instanceMethod yX4_citizen, Cond.selects RX4 yX4_citizen yX4_citizen, Cond.code yX4_citizen cX4_citizen 3 (some .int), Cond.fieldLink RX4 120 "UmbrellaLand$Republic" "citizens" "[LUmbrellaLand$Citizen;", Cond.methodLink RX4 117 yX4_checkCitizen, Cond.instanceMethod yX4_checkCitizen, Cond.selects RX4 yX4_checkCitizen yX4_checkCitizen, Cond.code yX4_checkCitizen cX4_checkCitizen 2 none, Cond.methodLink RX4 189 yX1_isCitizen, Cond.instanceMethod yX1_isCitizen, Cond.selects RX1 yX1_isCitizen yX1_isCitizen, Cond.code yX1_isCitizen cX1_isCitizen 2 (some .boolean), Cond.methodLink RX4 124 yX0_tell, Cond.instanceMethod yX0_tell, Cond.selects RX0 yX0_tell yX0_tell, Cond.code yX0_tell cX0_tell 2 (some .int), Cond.fieldLink RX0 42 "UmbrellaLand$Citizen" "hoursToWalk" "I", Cond.fieldLink RX0 45 "UmbrellaLand$Citizen" "wet" "I", Cond.fieldLink RX0 48 "UmbrellaLand$Citizen" "taken" "I", Cond.fieldLink RX0 51 "UmbrellaLand$Citizen" "forgotten" "I", Cond.fieldLink RX0 54 "UmbrellaLand$Citizen" "refused" "I", Cond.methodLink RL 96 yX6_citizen]
def wsL_law0_r16 : List Cond := [Cond.instanceMethod yX6_citizen, Cond.selects RX6 yX6_citizen yX6_citizen, Cond.code yX6_citizen cX6_citizen 3 (some .int), Cond.methodLink RX6 118 yX6_isCitizen, Cond.instanceMethod yX6_isCitizen, Cond.selects RX6 yX6_isCitizen yX6_isCitizen, Cond.code yX6_isCitizen cX6_isCitizen 2 (some .boolean), Cond.methodLink RX6 121 yX6_citizenTold, Cond.instanceMethod yX6_citizenTold, Cond.selects RX6 yX6_citizenTold yX6_citizenTold, Cond.code yX6_citizenTold cX6_citizenTold 4 (some .int), Cond.methodLink RL 97 yL_count, Cond.static yL_count, Cond.codeWith yL_count cL_count 4 (some .int) [(0, 9, 12, 20)], Cond.methodLink RL 41 yX4_count, Cond.instanceMethod yX4_count, Cond.selects RX4 yX4_count yX4_count, Cond.code yX4_count cX4_count 2 (some .int), Cond.methodLink RX4 127 yX1_tellAll, Cond.instanceMethod yX1_tellAll, Cond.selects RX1 yX1_tellAll yX1_tellAll, Cond.code yX1_tellAll cX1_tellAll 2 (some .int), Cond.fieldLink RX1 42 "UmbrellaLand$Republic" "hour" "I", Cond.fieldLink RX1 55 "UmbrellaLand$Republic" "carried" "I"]
def wsL_law0_r17 : List Cond := [Cond.methodLink RX1 226 yX1_umbrellasThatAre, Cond.instanceMethod yX1_umbrellasThatAre, Cond.selects RX1 yX1_umbrellasThatAre yX1_umbrellasThatAre, Cond.code yX1_umbrellasThatAre cX1_umbrellasThatAre 4 (some .int), Cond.fieldLink RX1 216 "UmbrellaLand$Umbrella" "state" "I", Cond.methodLink RX1 229 yX1_wetOfAll, Cond.instanceMethod yX1_wetOfAll, Cond.selects RX1 yX1_wetOfAll yX1_wetOfAll, Cond.code yX1_wetOfAll cX1_wetOfAll 3 (some .int), Cond.fieldLink RX1 180 "UmbrellaLand$Citizen" "wet" "I", Cond.methodLink RL 100 yX6_count, Cond.instanceMethod yX6_count, Cond.selects RX6 yX6_count yX6_count, Cond.code yX6_count cX6_count 2 (some .int), Cond.methodLink RX6 136 yX6_counted, Cond.instanceMethod yX6_counted, Cond.selects RX6 yX6_counted yX6_counted, Cond.code yX6_counted cX6_counted 3 (some .int), Cond.methodLink RX6 127 yX5_of, Cond.instanceMethod yX5_of, Cond.selects RX5 yX5_of yX5_of, Cond.code yX5_of cX5_of 4 (some .int), Cond.methodLink RX6 130 yX5_over, Cond.instanceMethod yX5_over]
def wsL_law0_r18 : List Cond := [Cond.selects RX5 yX5_over yX5_over, Cond.code yX5_over cX5_over 4 (some .int), Cond.fieldLink RX5 80 "UmbrellaLandModel$State" "citizens" "I", Cond.methodLink RL 101 yL_pass, Cond.static yL_pass, Cond.codeWith yL_pass cL_pass 4 (some .int) [(0, 9, 12, 13)], Cond.methodLink RL 45 yX4_pass, Cond.instanceMethod yX4_pass, Cond.selects RX4 yX4_pass yX4_pass, Cond.code yX4_pass cX4_pass 2 (some .int), Cond.methodLink RX4 130 yX4_checkHours, Cond.static yX4_checkHours, Cond.code yX4_checkHours cX4_checkHours 2 none, Cond.methodLink RX4 133 yX1_letGoBy, Cond.instanceMethod yX1_letGoBy, Cond.selects RX1 yX1_letGoBy yX1_letGoBy, Cond.code yX1_letGoBy cX1_letGoBy 5 (some .int), Cond.methodLink RX1 109 yJ9_floorMod_7cf53, Cond.static yJ9_floorMod_7cf53, Cond.initialized RJ9, Cond.code yJ9_floorMod_7cf53 cJ9_floorMod_7cf53 3 (some .int), Cond.methodLink RX1 112 yX1_letUmbrellasWait, Cond.instanceMethod yX1_letUmbrellasWait, Cond.selects RX1 yX1_letUmbrellasWait yX1_letUmbrellasWait]
def wsL_law0_r19 : List Cond := [Cond.code yX1_letUmbrellasWait cX1_letUmbrellasWait 2 none, Cond.methodLink RX1 127 yX3_waitAnHour, Cond.instanceMethod yX3_waitAnHour, Cond.selects RX3 yX3_waitAnHour yX3_waitAnHour, Cond.code yX3_waitAnHour cX3_waitAnHour 1 none, Cond.methodLink RX1 115 yX1_letCitizensLeave, Cond.instanceMethod yX1_letCitizensLeave, Cond.selects RX1 yX1_letCitizensLeave yX1_letCitizensLeave, Cond.code yX1_letCitizensLeave cX1_letCitizensLeave 5 (some .int), Cond.methodLink RX1 130 yX0_leavesAt, Cond.instanceMethod yX0_leavesAt, Cond.selects RX0 yX0_leavesAt yX0_leavesAt, Cond.code yX0_leavesAt cX0_leavesAt 2 (some .boolean), Cond.fieldLink RX0 33 "UmbrellaLand$Citizen" "leaves" "I", Cond.fieldLink RX0 36 "UmbrellaLand$Citizen" "returns" "I", Cond.methodLink RX1 133 yX1_takeUmbrella, Cond.instanceMethod yX1_takeUmbrella, Cond.selects RX1 yX1_takeUmbrella yX1_takeUmbrella, Cond.code yX1_takeUmbrella cX1_takeUmbrella 5 (some .boolean), Cond.fieldLink RX1 145 "UmbrellaLand$Citizen" "trust" "I", Cond.fieldLink RX1 154 "UmbrellaLand$Citizen" "refused" "I", Cond.fieldLink RX1 163 "UmbrellaLand$Citizen" "inHand" "I", Cond.fieldLink RX1 166 "UmbrellaLand$Citizen" "taken" "I", Cond.methodLink RX1 151 yX1_isUmbrella]
def wsL_law0_r20 : List Cond := [Cond.methodLink RX1 157 yX2_noteRefusal, Cond.instanceMethod yX2_noteRefusal, Cond.selects RX2 yX2_noteRefusal yX2_noteRefusal, Cond.code yX2_noteRefusal cX2_noteRefusal 1 none, Cond.fieldLink RX2 24 "UmbrellaLand$Shelter" "refused" "I", Cond.fieldLink RX2 30 "UmbrellaLand$Shelter" "refusedToday" "I", Cond.methodLink RX1 160 yX3_goWith, Cond.instanceMethod yX3_goWith, Cond.selects RX3 yX3_goWith yX3_goWith, Cond.code yX3_goWith cX3_goWith 2 none, Cond.methodLink RX1 136 yX0_setOut, Cond.instanceMethod yX0_setOut, Cond.selects RX0 yX0_setOut yX0_setOut, Cond.code yX0_setOut cX0_setOut 1 none, Cond.methodLink RX1 118 yX1_letCitizensWalk, Cond.instanceMethod yX1_letCitizensWalk, Cond.selects RX1 yX1_letCitizensWalk yX1_letCitizensWalk, Cond.code yX1_letCitizensWalk cX1_letCitizensWalk 4 none, Cond.fieldLink RX1 170 "UmbrellaLand$Citizen" "hoursToWalk" "I", Cond.methodLink RX1 173 yX1_meetRain, Cond.instanceMethod yX1_meetRain, Cond.selects RX1 yX1_meetRain yX1_meetRain, Cond.code yX1_meetRain cX1_meetRain 4 none, Cond.methodLink RX1 186 yX3_stayAway]
def wsL_law0_r21 : List Cond := [Cond.instanceMethod yX3_stayAway, Cond.selects RX3 yX3_stayAway yX3_stayAway, Cond.code yX3_stayAway cX3_stayAway 3 none, Cond.methodLink RX1 177 yX1_arrive, Cond.instanceMethod yX1_arrive, Cond.selects RX1 yX1_arrive yX1_arrive, Cond.code yX1_arrive cX1_arrive 3 none, Cond.fieldLink RX1 189 "UmbrellaLand$Citizen" "goal" "I", Cond.fieldLink RX1 205 "UmbrellaLand$Umbrella" "takenFrom" "I", Cond.methodLink RX1 192 yX0_forgetsThisOne, Cond.instanceMethod yX0_forgetsThisOne, Cond.selects RX0 yX0_forgetsThisOne yX0_forgetsThisOne, Cond.code yX0_forgetsThisOne cX0_forgetsThisOne 1 (some .boolean), Cond.fieldLink RX0 39 "UmbrellaLand$Citizen" "forgets" "I", Cond.methodLink RX1 196 yX3_standIn, Cond.methodLink RX1 199 yX0_noteBroughtBack, Cond.instanceMethod yX0_noteBroughtBack, Cond.selects RX0 yX0_noteBroughtBack yX0_noteBroughtBack, Cond.code yX0_noteBroughtBack cX0_noteBroughtBack 1 none, Cond.methodLink RX0 63 Lib.Math.min.name, Cond.static Lib.Math.min.name, Cond.code Lib.Math.min.name Lib.Math.min.code 2 (some .int), Cond.methodLink RX1 202 yX0_noteForgotten, Cond.instanceMethod yX0_noteForgotten]
def wsL_law0_r22 : List Cond := [Cond.selects RX0 yX0_noteForgotten yX0_noteForgotten, Cond.code yX0_noteForgotten cX0_noteForgotten 1 none, Cond.methodLink RX0 57 Lib.Math.max.name, Cond.methodLink RX1 208 yX2_noteForgotten, Cond.instanceMethod yX2_noteForgotten, Cond.selects RX2 yX2_noteForgotten yX2_noteForgotten, Cond.code yX2_noteForgotten cX2_noteForgotten 1 none, Cond.fieldLink RX2 21 "UmbrellaLand$Shelter" "forgotten" "I", Cond.fieldLink RX2 27 "UmbrellaLand$Shelter" "forgottenToday" "I", Cond.methodLink RX1 121 yX1_driveCart, Cond.instanceMethod yX1_driveCart, Cond.selects RX1 yX1_driveCart yX1_driveCart, Cond.code yX1_driveCart cX1_driveCart 4 none, Cond.methodLink RX1 124 yX1_endDay, Cond.instanceMethod yX1_endDay, Cond.selects RX1 yX1_endDay yX1_endDay, Cond.code yX1_endDay cX1_endDay 2 none, Cond.methodLink RX1 212 yX2_endDay, Cond.instanceMethod yX2_endDay, Cond.selects RX2 yX2_endDay yX2_endDay, Cond.code yX2_endDay cX2_endDay 1 none, Cond.methodLink RX2 33 Lib.Math.min.name, Cond.methodLink RX2 39 Lib.Math.max.name, Cond.methodLink RL 103 yX6_pass_]
def wsL_law0_r23 : List Cond := [Cond.instanceMethod yX6_pass_, Cond.selects RX6 yX6_pass_ yX6_pass_, Cond.code yX6_pass_ cX6_pass_ 2 (some .int), Cond.methodLink RX6 143 yX6_pass, Cond.static yX6_pass, Cond.code yX6_pass cX6_pass 4 (some .int), Cond.methodLink RX6 139 yX5_pass, Cond.instanceMethod yX5_pass, Cond.selects RX5 yX5_pass yX5_pass, Cond.code yX5_pass cX5_pass 5 (some .int), Cond.fieldLink RX5 70 "UmbrellaLandModel$State" "hour" "I", Cond.methodLink RX5 94 yX5_comeBack, Cond.instanceMethod yX5_comeBack, Cond.selects RX5 yX5_comeBack yX5_comeBack, Cond.code yX5_comeBack cX5_comeBack 2 none, Cond.methodLink RX5 98 yX5_leave, Cond.instanceMethod yX5_leave, Cond.selects RX5 yX5_leave yX5_leave, Cond.code yX5_leave cX5_leave 6 (some .int), Cond.methodLink RX5 119 Lib.Math.abs.name, Cond.methodLink RX5 124 Lib.Math.max.name, Cond.methodLink RX5 115 yX5_wouldGet, Cond.instanceMethod yX5_wouldGet, Cond.selects RX5 yX5_wouldGet yX5_wouldGet]
def wsL_law0_r24 : List Cond := [Cond.code yX5_wouldGet cX5_wouldGet 3 (some .boolean), Cond.methodLink RX5 90 yX5_first, Cond.methodLink RX5 105 yX5_walk, Cond.instanceMethod yX5_walk, Cond.selects RX5 yX5_walk yX5_walk, Cond.code yX5_walk cX5_walk 4 none, Cond.methodLink RX5 127 yX5_lay, Cond.instanceMethod yX5_lay, Cond.selects RX5 yX5_lay yX5_lay, Cond.code yX5_lay cX5_lay 4 none, Cond.methodLink RX5 130 Lib.Math.min.name, Cond.methodLink RX5 109 yX5_cart, Cond.instanceMethod yX5_cart, Cond.selects RX5 yX5_cart yX5_cart, Cond.code yX5_cart cX5_cart 4 none, Cond.fieldLink RX5 74 "UmbrellaLandModel$State" "shelters" "I", Cond.fieldLink RX5 83 "UmbrellaLandModel$State" "carried" "I", Cond.methodLink RX5 133 yX5_there, Cond.methodLink RX5 112 yX5_decree, Cond.instanceMethod yX5_decree, Cond.selects RX5 yX5_decree yX5_decree, Cond.code yX5_decree cX5_decree 2 none, Cond.methodLink RL 104 yL_foresee, Cond.static yL_foresee]
def wsL_law0_r25 : List Cond := [Cond.codeWith yL_foresee cL_foresee 5 (some .int) [(0, 10, 13, 13), (0, 10, 17, 20)], Cond.methodLink RL 48 yX4_foresee, Cond.instanceMethod yX4_foresee, Cond.selects RX4 yX4_foresee yX4_foresee, Cond.code yX4_foresee cX4_foresee 3 (some .int), Cond.methodLink RX4 136 yX1_becomeLike, Cond.instanceMethod yX1_becomeLike, Cond.selects RX1 yX1_becomeLike yX1_becomeLike, Cond.code yX1_becomeLike cX1_becomeLike 3 none, Cond.methodLink RX1 36 arraycopyName, Cond.methodLink RX1 58 yX2_becomeLike, Cond.instanceMethod yX2_becomeLike, Cond.selects RX2 yX2_becomeLike yX2_becomeLike, Cond.code yX2_becomeLike cX2_becomeLike 2 none, Cond.fieldLink RX2 18 "UmbrellaLand$Shelter" "taken" "I", Cond.methodLink RX1 62 yX3_becomeLike, Cond.instanceMethod yX3_becomeLike, Cond.selects RX3 yX3_becomeLike yX3_becomeLike, Cond.code yX3_becomeLike cX3_becomeLike 2 none, Cond.methodLink RX1 65 yX0_becomeLike, Cond.instanceMethod yX0_becomeLike, Cond.selects RX0 yX0_becomeLike yX0_becomeLike, Cond.code yX0_becomeLike cX0_becomeLike 2 none, Cond.methodLink RX4 140 yX1_wetOfAll]
def wsL_law0_r26 : List Cond := [Cond.methodLink RX4 144 yX1_umbrellasThatAre, Cond.methodLink RX4 147 yX1_trustOfAll, Cond.instanceMethod yX1_trustOfAll, Cond.selects RX1 yX1_trustOfAll yX1_trustOfAll, Cond.code yX1_trustOfAll cX1_trustOfAll 3 (some .int), Cond.methodLink RL 106 yX6_foresee, Cond.instanceMethod yX6_foresee, Cond.selects RX6 yX6_foresee yX6_foresee, Cond.code yX6_foresee cX6_foresee 3 (some .int), Cond.methodLink RX6 146 yX5_become, Cond.instanceMethod yX5_become, Cond.selects RX5 yX5_become yX5_become, Cond.code yX5_become cX5_become 2 none, Cond.methodLink RX5 86 yX5_copy, Cond.instanceMethod yX5_copy, Cond.selects RX5 yX5_copy yX5_copy, Cond.code yX5_copy cX5_copy 3 none, Cond.methodLink RX5 64 arraycopyName, Cond.methodLink RL 107 yL_advise, Cond.static yL_advise, Cond.codeWith yL_advise cL_advise 4 (some .int) [(0, 9, 12, 13), (0, 9, 15, 15)], Cond.methodLink RL 51 yX4_advise, Cond.instanceMethod yX4_advise, Cond.selects RX4 yX4_advise yX4_advise]
def wsL_law0_r27 : List Cond := [Cond.code yX4_advise cX4_advise 6 (some .int), Cond.methodLink RX4 152 yX4_wetAfter, Cond.instanceMethod yX4_wetAfter, Cond.selects RX4 yX4_wetAfter yX4_wetAfter, Cond.code yX4_wetAfter cX4_wetAfter 3 (some .int), Cond.methodLink RL 109 yX6_advise, Cond.instanceMethod yX6_advise, Cond.selects RX6 yX6_advise yX6_advise, Cond.code yX6_advise cX6_advise 5 (some .int), Cond.methodLink RL 110 yL_wouldGet, Cond.static yL_wouldGet, Cond.codeWith yL_wouldGet cL_wouldGet 5 (some .int) [(0, 17, 20, 20)], Cond.methodLink RL 54 yX4_wouldGet, Cond.instanceMethod yX4_wouldGet, Cond.selects RX4 yX4_wouldGet yX4_wouldGet, Cond.code yX4_wouldGet cX4_wouldGet 3 (some .boolean), Cond.fieldLink RX4 155 "UmbrellaLand$Citizen" "trust" "I", Cond.methodLink RX4 158 yX1_firstUmbrellaIn, Cond.methodLink RL 112 yX6_wouldGet, Cond.instanceMethod yX6_wouldGet, Cond.selects RX6 yX6_wouldGet yX6_wouldGet, Cond.code yX6_wouldGet cX6_wouldGet 3 (some .boolean), Cond.methodLink RX6 150 yX5_wouldGet, Cond.methodLink RL 113 yL_lasts]
def wsL_law0_r28 : List Cond := [Cond.static yL_lasts, Cond.codeWith yL_lasts cL_lasts 5 (some .int) [(0, 10, 13, 20)], Cond.methodLink RL 58 yX4_lasts, Cond.instanceMethod yX4_lasts, Cond.selects RX4 yX4_lasts yX4_lasts, Cond.code yX4_lasts cX4_lasts 5 (some .int), Cond.fieldLink RX4 161 "UmbrellaLand$Umbrella" "state" "I", Cond.fieldLink RX4 164 "UmbrellaLand$Umbrella" "wear" "I", Cond.methodLink RX4 167 yJ9_floorMod_7cf53, Cond.methodLink RL 115 yX6_lasts, Cond.instanceMethod yX6_lasts, Cond.selects RX6 yX6_lasts yX6_lasts, Cond.code yX6_lasts cX6_lasts 5 (some .int), Cond.methodLink RL 116 yX4_trust, Cond.instanceMethod yX4_trust, Cond.selects RX4 yX4_trust yX4_trust, Cond.code yX4_trust cX4_trust 1 (some .double), Cond.methodLink RL 120 yX6_trust, Cond.instanceMethod yX6_trust, Cond.selects RX6 yX6_trust yX6_trust, Cond.code yX6_trust cX6_trust 1 (some .double), Cond.methodLink RL 121 yX4_digest, Cond.instanceMethod yX4_digest, Cond.selects RX4 yX4_digest yX4_digest]
def wsL_law0_r29 : List Cond := [Cond.code yX4_digest cX4_digest 5 (some .long), Cond.constantLong RX4 172 (569), Cond.constantLong RX4 174 (31), Cond.methodLink RL 125 yX6_digest, Cond.instanceMethod yX6_digest, Cond.selects RX6 yX6_digest yX6_digest, Cond.code yX6_digest cX6_digest 5 (some .long), Cond.constantLong RX6 154 (569), Cond.constantLong RX6 156 (31)]
def wsL_law0 : List Cond := (wsL_law0_r1 ++ (wsL_law0_r2 ++ (wsL_law0_r3 ++ (wsL_law0_r4 ++ (wsL_law0_r5 ++ (wsL_law0_r6 ++ (wsL_law0_r7 ++ (wsL_law0_r8 ++ (wsL_law0_r9 ++ (wsL_law0_r10 ++ (wsL_law0_r11 ++ (wsL_law0_r12 ++ (wsL_law0_r13 ++ (wsL_law0_r14 ++ (wsL_law0_r15 ++ (wsL_law0_r16 ++ (wsL_law0_r17 ++ (wsL_law0_r18 ++ (wsL_law0_r19 ++ (wsL_law0_r20 ++ (wsL_law0_r21 ++ (wsL_law0_r22 ++ (wsL_law0_r23 ++ (wsL_law0_r24 ++ (wsL_law0_r25 ++ (wsL_law0_r26 ++ (wsL_law0_r27 ++ (wsL_law0_r28 ++ wsL_law0_r29)))))))))))))))))))))))))))) ++ wsX40 ++ wsX60 ++ wsX10 ++ wsX20 ++ wsX30 ++ wsX00 ++ wsX50 ++ ([] : List Cond)
def wsL_law : List Cond := wsL_law0 ++ (vx_atS RX4 27 "java/lang/IllegalArgumentException" ["java/lang/RuntimeException", "java/lang/Exception"]).filter goodWord ++ (vx_atS RX4 42 "java/lang/IllegalStateException" ["java/lang/RuntimeException", "java/lang/Exception"]).filter goodWord ++ (vx_atS RX4 183 "java/lang/IndexOutOfBoundsException" ["java/lang/RuntimeException", "java/lang/Exception"]).filter goodWord
end
section
abbrev vwCl : List vw_C := [(RX0, TX0, 15), (RX1, TX1, 9), (RX2, TX2, 7), (RX3, TX3, 6), (RX4, TX4, 2), (RX5, TX5, 22), (RX6, TX6, 4)]
/-! STATES: Sg = place, index -> int. A world is a list of places, each an object or an array of ints or of references. -/
abbrev Sg : Type := Nat → Nat → Int32
def up (σ : Sg) (p k : Nat) (v : Int32) : Sg := fun a b => if a = p ∧ b = k then v else σ a b
def ltt {α β : Type} (a : α) (f : α → β) : β := f a
theorem ltt_r {α β : Type} {a x : α} {f : α → β} (h : x = a) : ltt a f = f x := by subst h; rfl
abbrev tn (x : Int32) : Nat := x.toNatClampNeg
theorem up_row (σ : Sg) (p k : Nat) (v : Int32) : (up σ p k v) p = upd (σ p) k v := by
  funext b; simp [up, upd]
theorem up_row_ne (σ : Sg) {p q : Nat} (k : Nat) (v : Int32) (h : q ≠ p) : (up σ p k v) q = σ q := by
  funext b; simp [up, h]
theorem up_s (σ : Sg) (p k : Nat) (v : Int32) : up σ p k v p k = v := by simp [up]
theorem up_ne (σ : Sg) {p k a b : Nat} (v : Int32) (h : ¬ (a = p ∧ b = k)) : up σ p k v a b = σ a b := by simp [up, h]
def WD (n : Nat) (rc : Nat → (Nat → Int32) → va_E) (ad : Nat → Nat) (σ : Sg) : va_W := (List.range n).map (fun p => (ad p, rc p (σ p)))
theorem WD_len (n : Nat) (rc : Nat → (Nat → Int32) → va_E) (ad : Nat → Nat) (σ : Sg) : (WD n rc ad σ).length = n := by simp [WD]
theorem WD_get {n p : Nat} {rc : Nat → (Nat → Int32) → va_E} {ad : Nat → Nat} {σ : Sg} {e : va_E} (hp : p < n) (he : rc p (σ p) = e) : (WD n rc ad σ)[p]? = some (ad p, e) := by
  subst he
  simp [WD, hp]
theorem WD_set {n p k : Nat} {rc : Nat → (Nat → Int32) → va_E} {ad : Nat → Nat} {σ : Sg} {v : Int32} {e : va_E} (he : rc p (upd (σ p) k v) = e) : (WD n rc ad σ).set p (ad p, e) = WD n rc ad (up σ p k v) := by
  apply List.ext_getElem?
  intro i
  rw [List.getElem?_set]
  simp only [WD, List.length_map, List.length_range, List.getElem?_map]
  by_cases hi : p = i
  · subst hi
    rw [if_pos rfl]
    by_cases hl : p < n
    · rw [if_pos hl, List.getElem?_range hl, Option.map_some, up_row, he]
    · rw [if_neg hl, List.getElem?_eq_none (by simpa using Nat.not_lt.mp hl)]
      rfl
  · rw [if_neg hi]
    cases h : (List.range n)[i]? with
    | none => rfl
    | some j =>
      have hj : j = i := by
        have h1 := List.getElem?_eq_some_iff.mp h
        obtain ⟨h2, h3⟩ := h1
        rw [List.getElem_range] at h3
        exact h3.symm
      rw [Option.map_some, Option.map_some, up_row_ne σ k v (fun h => hi (by rw [← h, hj]))]
/-! worlds side by side -/
theorem gx_l {w1 w2 : va_W} {p : Nat} {v : Nat × va_E} (h : w1[p]? = some v) : (w1 ++ w2)[p]? = some v := by
  rw [List.getElem?_append_left (List.getElem?_eq_some_iff.mp h).1]; exact h
theorem gx_r {w1 w2 : va_W} {p n : Nat} {v : Nat × va_E} (hn : w1.length = n) (h : w2[p]? = some v) : (w1 ++ w2)[n + p]? = some v := by
  rw [List.getElem?_append_right (by omega), show n + p - w1.length = p by omega]; exact h
theorem gx_setl {w1 w2 w1' : va_W} {p : Nat} {v : Nat × va_E} (hl : p < w1.length) (h : w1.set p v = w1') : (w1 ++ w2).set p v = w1' ++ w2 := by
  rw [List.set_append_left p v hl, h]
theorem gx_setr {w1 w2 w2' : va_W} {p n : Nat} {v : Nat × va_E} (hn : w1.length = n) (h : w2.set p v = w2') : (w1 ++ w2).set (n + p) v = w1 ++ w2' := by
  rw [List.set_append_right (n + p) v (by omega), show n + p - w1.length = p by omega, h]
/-! a world's order is of no weight -/
theorem va_P_iff {D : va_G} {cl : List vw_C} {ws : va_W} {H : Heap} : va_P D cl ws H ↔ ∀ q ∈ ws, va_at D cl q H := by
  constructor
  · intro h q hq
    obtain ⟨k, hk⟩ := List.getElem?_of_mem hq
    exact h k q hk
  · intro h k q hk
    exact h q (List.mem_of_getElem? hk)
theorem va_P_perm {D : va_G} {cl : List vw_C} {ws ws' : va_W} {H : Heap} (hp : ws.Perm ws') (h : va_P D cl ws H) : va_P D cl ws' H :=
  va_P_iff.mpr fun q hq => va_P_iff.mp h q (hp.mem_iff.mpr hq)
theorem va_D_iff {A : Nat → Prop} {ws : va_W} : va_D A ws ↔ (ws.map (·.1)).Nodup ∧ ∀ q ∈ ws, A q.1 := by
  constructor
  · rintro ⟨h1, h2⟩
    refine ⟨?_, fun q hq => ?_⟩
    · rw [List.nodup_iff_pairwise_ne, List.pairwise_iff_getElem]
      intro i j hi hj hij hne
      rw [List.length_map] at hi hj
      rw [List.getElem_map, List.getElem_map] at hne
      have := h1 i j _ _ (List.getElem?_eq_getElem hi) (List.getElem?_eq_getElem hj) hne
      omega
    · obtain ⟨k, hk⟩ := List.getElem?_of_mem hq
      exact h2 k q hk
  · rintro ⟨h1, h2⟩
    refine ⟨fun i j p q hi hj hpq => ?_, fun k q hk => h2 q (List.mem_of_getElem? hk)⟩
    rw [List.nodup_iff_pairwise_ne, List.pairwise_iff_getElem] at h1
    obtain ⟨hi', e1⟩ := List.getElem?_eq_some_iff.mp hi
    obtain ⟨hj', e2⟩ := List.getElem?_eq_some_iff.mp hj
    rcases Nat.lt_trichotomy i j with h | h | h
    · exact absurd (by rw [List.getElem_map, List.getElem_map, e1, e2]; exact hpq) (h1 i j (by simpa using hi') (by simpa using hj') h)
    · exact h
    · exact absurd (by rw [List.getElem_map, List.getElem_map, e1, e2]; exact hpq.symm) (h1 j i (by simpa using hj') (by simpa using hi') h)
theorem va_D_perm {A : Nat → Prop} {ws ws' : va_W} (hp : ws.Perm ws') (h : va_D A ws) : va_D A ws' := by
  rw [va_D_iff] at h ⊢
  exact ⟨(hp.map _).nodup_iff.mp h.1, fun q hq => h.2 q (hp.mem_iff.mpr hq)⟩
theorem va_P_l {D : va_G} {cl : List vw_C} {w1 w2 : va_W} {H : Heap} (h : va_P D cl (w1 ++ w2) H) : va_P D cl w1 H := va_P_iff.mpr fun q hq => va_P_iff.mp h q (List.mem_append_left _ hq)
theorem va_P_r {D : va_G} {cl : List vw_C} {w1 w2 : va_W} {H : Heap} (h : va_P D cl (w1 ++ w2) H) : va_P D cl w2 H := va_P_iff.mpr fun q hq => va_P_iff.mp h q (List.mem_append_right _ hq)
theorem va_D_l {A : Nat → Prop} {w1 w2 : va_W} (h : va_D A (w1 ++ w2)) : va_D A w1 := by
  rw [va_D_iff] at h ⊢
  rw [List.map_append] at h
  exact ⟨(List.nodup_append.mp h.1).1, fun q hq => h.2 q (List.mem_append_left _ hq)⟩
theorem va_D_r {A : Nat → Prop} {w1 w2 : va_W} (h : va_D A (w1 ++ w2)) : va_D A w2 := by
  rw [va_D_iff] at h ⊢
  rw [List.map_append] at h
  exact ⟨(List.nodup_append.mp h.1).2.1, fun q hq => h.2 q (List.mem_append_right _ hq)⟩
theorem va_A_mem {ws : va_W} {sz q : Nat} : va_A ws sz q ↔ q ∈ ws.map (·.1) ∨ sz ≤ q := by
  constructor
  · rintro (⟨k, e, h⟩ | h)
    · exact Or.inl (List.mem_map.mpr ⟨(q, e), List.mem_of_getElem? h, rfl⟩)
    · exact Or.inr h
  · rintro (h | h)
    · obtain ⟨x, hx, rfl⟩ := List.mem_map.mp h
      obtain ⟨k, hk⟩ := List.getElem?_of_mem hx
      exact Or.inl ⟨k, x.2, hk⟩
    · exact Or.inr h
/-- what a callee may change, a caller may -/
theorem g_free {A0 : Nat → Prop} {wc wr : va_W} {H0 H : Heap} {locs : List Loc} (hD : va_D A0 (wc ++ wr)) (hS : va_S A0 H0 H locs) (hA : ∀ q, H0.size ≤ q → A0 q) : ∀ q, va_A wc H.size q → A0 q := by
  intro q h
  rcases va_A_mem.mp h with h | h
  · obtain ⟨x, hx, rfl⟩ := List.mem_map.mp h
    exact (va_D_iff.mp hD).2 x (List.mem_append_left _ hx)
  · exact hA q (Nat.le_trans hS.1 h)
/-- behind a call: the callee's world anew, the rest as it was -/
theorem g_join {A0 : Nat → Prop} {D : va_G} {cl : List vw_C} {wc wr w1 : va_W} {H H1 : Heap} (hP : va_P D cl (wc ++ wr) H) (hD : va_D A0 (wc ++ wr))
    (hk : ∀ q : Nat, q < H.size → ¬ va_A wc H.size q → H1[q]? = H[q]?) (hF : ∀ q, va_A wc H.size q → A0 q) (hP1 : va_P D cl w1 H1) (hD1 : va_D (va_A wc H.size) w1) : va_P D cl (w1 ++ wr) H1 ∧ va_D A0 (w1 ++ wr) := by
  have hdis : ∀ q ∈ wr, ¬ va_A wc H.size q.1 := by
    intro q hq h
    have hlt : q.1 < H.size := (va_P_iff.mp hP q (List.mem_append_right _ hq)).lt
    rcases va_A_mem.mp h with h | h
    · have h1 := (va_D_iff.mp hD).1
      rw [List.map_append] at h1
      exact (List.nodup_append.mp h1).2.2 q.1 h q.1 (List.mem_map.mpr ⟨q, hq, rfl⟩) rfl
    · omega
  refine ⟨va_P_iff.mpr fun q hq => ?_, va_D_iff.mpr ⟨?_, fun q hq => ?_⟩⟩
  · rcases List.mem_append.mp hq with h | h
    · exact va_P_iff.mp hP1 q h
    · have h0 := va_P_iff.mp hP q (List.mem_append_right _ h)
      exact h0.kept (hk q.1 h0.lt (hdis q h))
  · rw [List.map_append]
    refine List.nodup_append.mpr ⟨(va_D_iff.mp hD1).1, (va_D_iff.mp (va_D_r hD)).1, ?_⟩
    intro a ha b hb hab
    subst hab
    obtain ⟨x, hx, rfl⟩ := List.mem_map.mp ha
    obtain ⟨y, hy, hxy⟩ := List.mem_map.mp hb
    exact hdis y hy (by rw [hxy]; exact (va_D_iff.mp hD1).2 x hx)
  · rcases List.mem_append.mp hq with h | h
    · exact hF _ ((va_D_iff.mp hD1).2 q h)
    · exact (va_D_iff.mp hD).2 q (List.mem_append_right _ h)
/-! CONTRACTS over a world wf of a state: g_v (void), g_i (int), g_l (long) -/
def gPre {S : Type} (D : va_G) (tys : List (ClassId × FieldType)) (wf : S → va_W) (σ : S) (sz : Nat) : State → Prop := fun U => U.heap.size = sz ∧ va_P D vwCl (wf σ) U.heap ∧ va_K D vwCl tys U ∧ va_D (fun _ => True) (wf σ)
def gPost {S : Type} (D : va_G) (wf : S → va_W) (A : Nat → Prop) : S → State → Prop := fun u t => va_P D vwCl (wf u) t.heap ∧ va_D A (wf u)
def gMv {S : Type} (l : Launch) (y : MethodName) (ws : List Cond) (rm : Room) (D : va_G) (tys : List (ClassId × FieldType)) (wf : S → va_W) (av : List Value) (σ f : S) (mc ms : Nat) : Prop :=
  ∀ sz : Nat, Met l y ws rm (va_Pc av (gPre D tys wf σ sz)) (va_Qv (fun u => u = f) (gPost D wf (va_A (wf σ) sz)) (va_A (wf σ) sz)) mc ms (va_A (wf σ) sz)
def gMi {S : Type} (l : Launch) (y : MethodName) (ws : List Cond) (rm : Room) (D : va_G) (tys : List (ClassId × FieldType)) (wf : S → va_W) (av : List Value) (σ : S) (f : Int32 × S) (mc ms : Nat) : Prop :=
  ∀ sz : Nat, Met l y ws rm (va_Pc av (gPre D tys wf σ sz)) (va_Qi (fun r u => (r, u) = f) (gPost D wf (va_A (wf σ) sz)) (va_A (wf σ) sz)) mc ms (va_A (wf σ) sz)
/-- an int is answered, the state stays -/
def gMr {S : Type} (l : Launch) (y : MethodName) (ws : List Cond) (rm : Room) (D : va_G) (tys : List (ClassId × FieldType)) (wf : S → va_W) (av : List Value) (σ : S) (r : Int32) (mc ms : Nat) : Prop :=
  gMi l y ws rm D tys wf av σ (r, σ) mc ms
theorem gPre_blind {S : Type} {D : va_G} {tys : List (ClassId × FieldType)} {wf : S → va_W} {σ : S} {sz : Nat} {av : List Value} : FrameBlind (va_Pc av (gPre D tys wf σ sz)) := by
  intro a U g mk h
  obtain ⟨h0, h1, h2, h3, h4⟩ := h
  exact ⟨h0, h1, h2, va_K.moved (u := U) (U := U.calling g mk a) (Vm.Alike.refl U.vm) h3, h4⟩
section GS
variable {S : Type} {l : Launch} {y : MethodName} {ws ws' : List Cond} {rm : Room} {D : va_G} {tys : List (ClassId × FieldType)} {wf : S → va_W} {av : List Value} {σ : S} {mc ms : Nat}
theorem gstartv {f : S} (cc : ByteArray) (maxL : Nat) (own : String) (hy : plainName y.cls = true) (hw : ws = Cond.code y cc maxL none :: ws') (hown0 : y.cls = own) (hn : (lg_sl av).length ≤ maxL)
    (body : ∀ (p : Program) (e : Env) (s : State) (m : MethodId) (below : List Frame) (meth : Method) (c : Code) (A : Nat → Prop) (ls : Array Slot), p.tables.exec = Jvm.exec → c.code = cc → c.maxLocals = maxL → s.vm.findClass own = some m.cls → (∀ w ∈ ws, w.before av.toArray s = true) → meth.sig.returnType = none → meth.locks = false → va_K D vwCl tys s → va_P D vwCl (wf σ) s.heap → va_D A (wf σ) → (∀ q : Nat, s.heap.size ≤ q → A q) → va_S A s.heap s.heap [] → lv_has ls maxL (lv_args 0 av) →
      W p l e rm s m av.toArray below meth c s.heap [] 0 0 (MQ below (va_Qv (fun u => u = f) (gPost D wf A) A) av.toArray s mc ms A) (F0 m 0 ls [])) : gMv l y ws rm D tys wf av σ f mc ms := by
  intro sz
  refine Met.ofW (cc := cc) (maxL := maxL) (ret := none) hy hw ?_
  intro p e s m args below meth c s₁ B hml hv
  obtain ⟨rfl, hsz, hP, hK, hD0⟩ := hv
  have hts := atoms_spec (ws := ws) B.pre
  have hown : s.vm.findClass own = some m.cls := by rw [← hown0]; exact findClass_of_methodNamed B.named
  subst hsz
  have hD := hD0.self (sz := s.heap.size)
  have hA : ∀ q : Nat, s.heap.size ≤ q → va_A (wf σ) s.heap.size q := fun q h => Or.inr h
  rw [lg_entry_eq]
  exact body p e s m below meth c _ _ B.exec B.bytes hml hown hts B.returns B.notSynchronized hK hP hD hA va_S.rf (lv_entry av hn)
theorem gstarti {f : Int32 × S} {rt : FieldType} (cc : ByteArray) (maxL : Nat) (own : String) (hy : plainName y.cls = true) (hw : ws = Cond.code y cc maxL (some rt) :: ws') (hown0 : y.cls = own) (hn : (lg_sl av).length ≤ maxL)
    (body : ∀ (p : Program) (e : Env) (s : State) (m : MethodId) (below : List Frame) (meth : Method) (c : Code) (A : Nat → Prop) (ls : Array Slot), p.tables.exec = Jvm.exec → c.code = cc → c.maxLocals = maxL → s.vm.findClass own = some m.cls → (∀ w ∈ ws, w.before av.toArray s = true) → meth.sig.returnType = some rt → meth.locks = false → va_K D vwCl tys s → va_P D vwCl (wf σ) s.heap → va_D A (wf σ) → (∀ q : Nat, s.heap.size ≤ q → A q) → va_S A s.heap s.heap [] → lv_has ls maxL (lv_args 0 av) →
      W p l e rm s m av.toArray below meth c s.heap [] 0 0 (MQ below (va_Qi (fun r u => (r, u) = f) (gPost D wf A) A) av.toArray s mc ms A) (F0 m 0 ls [])) : gMi l y ws rm D tys wf av σ f mc ms := by
  intro sz
  refine Met.ofW (cc := cc) (maxL := maxL) (ret := some rt) hy hw ?_
  intro p e s m args below meth c s₁ B hml hv
  obtain ⟨rfl, hsz, hP, hK, hD0⟩ := hv
  have hts := atoms_spec (ws := ws) B.pre
  have hown : s.vm.findClass own = some m.cls := by rw [← hown0]; exact findClass_of_methodNamed B.named
  subst hsz
  have hD := hD0.self (sz := s.heap.size)
  have hA : ∀ q : Nat, s.heap.size ≤ q → va_A (wf σ) s.heap.size q := fun q h => Or.inr h
  rw [lg_entry_eq]
  exact body p e s m below meth c _ _ B.exec B.bytes hml hown hts B.returns B.notSynchronized hK hP hD hA va_S.rf (lv_entry av hn)
end GS
section GR
variable {p : Program} {l : Launch} {e : Env} {R : Room} {s : State} {m : MethodId} {args : Array Value} {below : List Frame} {meth : Method} {c : Code} {H : Heap} {locs : List Loc} {cells slots : Nat} {Q : State → Prop}
variable {pc : Nat} {ls : Array Slot} {rest st0 : List Value} {A : Nat → Prop} {H0 : Heap} {cc : ByteArray} {D : va_G} {tys : List (ClassId × FieldType)} {ws : va_W} {a : Nat}
/-- a field is written: the world's new state has a name -/
theorem g_put {S : Type} {wf : S → va_W} {σ σ1 : S} {own C : String} {T : u_T} {N ci index : Nat} {Ts : List Cond} (hx : p.tables.exec = Jvm.exec) (hb : c.code = cc) (hts : ∀ w ∈ Ts, w.before args s = true) (hin : ∀ w ∈ u_ws C T N, w ∈ Ts) {ty0 : Nat → FieldType} (hty : ∀ k, k < N → parseFieldDescriptor (T k).2.2.1 = some (ty0 k)) (hnm : ∀ a, a < N → ∀ b, b < N → a ≠ b → (T a).2.1 ≠ (T b).2.1) (hown : s.vm.findClass own = some m.cls) (hK : va_K D vwCl tys s) (hP : va_P D vwCl (wf σ) H) (hD : va_D A (wf σ)) (hS0 : va_S A H0 H locs) (q0 : Nat) {fs : List Value} {v : Int32} (he : (wf σ)[q0]? = some (a, .inr (ci, fs))) (hc : vwCl[ci]? = some (C, T, N)) (k : Nat) (hk : k < N) (hlink : (Cond.fieldLink own index (T k).1 (T k).2.1 (T k).2.2.1).before args s = true) (hfin : (T k).2.2.2 = false) (hd : (T k).2.2.1 = "I") (hl : k < fs.length)
    (hset : (wf σ).set q0 (a, .inr (ci, fs.set k (.int v))) = wf σ1) (hdg : decode cc pc = .ok (.putfield index, 3))
    (kk : ∀ u : S, u = σ1 → ∀ (H1 : Heap) (locs1 : List Loc), va_P D vwCl (wf u) H1 → va_D A (wf u) → va_S A H0 H1 locs1 → W p l e R s m args below meth c H1 locs1 cells slots Q (F0 m (pc + 3) ls rest)) : W p l e R s m args below meth c H locs cells slots Q (F0 m pc ls (.int v :: .ref a :: rest)) := by
  refine va_put (ty := .int) hx hb hts hin ty0 hty hnm hown hK hP hD hS0 q0 he hc k hk hlink (fun _ h9 => h9) hfin (by rw [hd]; decide +kernel) rfl rfl hl hdg ?_
  rw [hset]
  exact fun H1 locs1 h1 h2 h3 => kk σ1 rfl H1 locs1 h1 h2 h3
/-- an int array's element is written -/
theorem g_iast {S : Type} {wf : S → va_W} {σ σ1 : S} (hx : p.tables.exec = Jvm.exec) (hb : c.code = cc) (hK : va_K D vwCl tys s) (hP : va_P D vwCl (wf σ) H) (hD : va_D A (wf σ)) (hS : va_S A H0 H locs) (q0 t0 : Nat) {cA : ClassId} {n : Nat} {f : Nat → Int32} {i x : Int32} (j : Nat) (he : (wf σ)[q0]? = some (a, .inl (cA, n, .inl f))) (ht : tys[t0]? = some (cA, .int)) (hj : i.toNatClampNeg = j) (hin : vp_in i n)
    (hset : (wf σ).set q0 (a, .inl (cA, n, .inl (upd f j x))) = wf σ1) (hdg : decode cc pc = .ok (.iastore, 1))
    (kk : ∀ u : S, u = σ1 → ∀ (H1 : Heap) (locs1 : List Loc), va_P D vwCl (wf u) H1 → va_D A (wf u) → va_S A H0 H1 locs1 → W p l e R s m args below meth c H1 locs1 cells slots Q (F0 m (pc + 1) ls rest)) : W p l e R s m args below meth c H locs cells slots Q (F0 m pc ls (.int x :: .int i :: .ref a :: rest)) := by
  subst hj
  refine va_iast hx hb hK hP hD hS q0 t0 he ht hin hdg ?_
  rw [hset]
  exact fun H1 locs1 h1 h2 h3 => kk σ1 rfl H1 locs1 h1 h2 h3
theorem g_iald (hx : p.tables.exec = Jvm.exec) (hb : c.code = cc) (hK : va_K D vwCl tys s) (hP : va_P D vwCl ws H) (q0 t0 : Nat) {cA : ClassId} {n : Nat} {f : Nat → Int32} {i : Int32} (j : Nat) (he : ws[q0]? = some (a, .inl (cA, n, .inl f))) (ht : tys[t0]? = some (cA, .int)) (hj : i.toNatClampNeg = j) (hin : vp_in i n) (hdg : decode cc pc = .ok (.iaload, 1))
    (kk : W p l e R s m args below meth c H locs cells slots Q (F0 m (pc + 1) ls (.int (f j) :: rest))) : W p l e R s m args below meth c H locs cells slots Q (F0 m pc ls (.int i :: .ref a :: rest)) := by
  subst hj
  exact va_iald hx hb hK hP q0 t0 he ht hin hdg kk
theorem g_aald (hx : p.tables.exec = Jvm.exec) (hb : c.code = cc) (hK : va_K D vwCl tys s) (hP : va_P D vwCl ws H) (q0 t0 : Nat) {cA : ClassId} {C : String} {n b : Nat} {f : Nat → Option Nat} {i : Int32} (j : Nat) (he : ws[q0]? = some (a, .inl (cA, n, .inr (.inr (.inr (.inr f)))))) (ht : tys[t0]? = some (cA, .object C)) (hj : i.toNatClampNeg = j) (hin : vp_in i n) (hfj : f j = some b) (hdg : decode cc pc = .ok (.aaload, 1))
    (kk : W p l e R s m args below meth c H locs cells slots Q (F0 m (pc + 1) ls (.ref b :: rest))) : W p l e R s m args below meth c H locs cells slots Q (F0 m pc ls (.int i :: .ref a :: rest)) := by
  subst hj
  refine va_aldq hx hb hK hP q0 t0 he ht hin hdg ?_
  rw [hfj]
  exact kk
theorem tn_in {i : Int32} {n : Nat} (h : vp_in i n) : i.toNatClampNeg < n := Nat.not_le.mp fun q => h (Or.inr q)
/-- an int on the stack has another name -/
theorem g_top {x y : Int32} (h : x = y) (k : W p l e R s m args below meth c H locs cells slots Q (F0 m pc ls (.int y :: rest))) : W p l e R s m args below meth c H locs cells slots Q (F0 m pc ls (.int x :: rest)) := by
  subst h; exact k
/-! ends -/
theorem g_endv {S : Type} {wf : S → va_W} {u f : S} {mc ms : Nat} (hx : p.tables.exec = Jvm.exec) (hb : c.code = cc) (hr : meth.sig.returnType = none) (hlocks : meth.locks = false) (hf : f = u) (hP : va_P D vwCl (wf u) H) (hD : va_D A (wf u)) (hS : va_S A s.heap H locs) (hc : cells ≤ mc) (hs : slots ≤ ms) (hdg : decode cc pc = .ok (.return_, 1)) :
    W p l e R s m args below meth c H locs cells slots (MQ below (va_Qv (fun u => u = f) (gPost D wf A) A) args s mc ms A) (F0 m pc ls []) := by
  refine W.widen hc hs ?_
  exact W.vret hx hb hr (fun t ht hW => ⟨⟨u, rfl, hf.symm, by rw [ht]; exact hP, hD⟩, hS.F ht⟩) hS.2.2 hdg hlocks
theorem g_endi {S : Type} {wf : S → va_W} {u : S} {v : Int32} {f : Int32 × S} {rt : FieldType} {mc ms : Nat} (hx : p.tables.exec = Jvm.exec) (hb : c.code = cc) (hr : meth.sig.returnType = some rt) (hlocks : meth.locks = false) (hn : narrow rt (.int v) = .int v) (hf : f = (v, u)) (hP : va_P D vwCl (wf u) H) (hD : va_D A (wf u)) (hS : va_S A s.heap H locs) (hc : cells ≤ mc) (hs : slots ≤ ms) (hdg : decode cc pc = .ok (.ireturn, 1)) :
    W p l e R s m args below meth c H locs cells slots (MQ below (va_Qi (fun r u => (r, u) = f) (gPost D wf A) A) args s mc ms A) (F0 m pc ls [.int v]) := by
  refine W.widen hc hs ?_
  exact W.zret hx hb hr hn (fun t ht hW => ⟨⟨v, u, rfl, hf.symm, by rw [ht]; exact hP, hD⟩, hS.F ht⟩) hS.2.2 hdg hlocks
/-! calls: of a method whose world is a part of the caller's -/
theorem g_callv {S Sc : Type} {wf : S → va_W} {σ : S} {wfc : Sc → va_W} {σc f : Sc} {y : MethodName} {bytes : ByteArray} {maxL nL mc ms n index cells2 slots2 : Nat} {wc : List Cond} {rm : Room} {Ts : List Cond} {own C : String} {ci q0 : Nat} {fs : List Value} {cl0 : vw_C}
    (hx : p.tables.exec = Jvm.exec) (hb : c.code = cc) (hml : c.maxLocals = nL) (hown : s.vm.findClass own = some m.cls) (hts : ∀ w ∈ Ts, w.before args s = true) (hK : va_K D vwCl tys s) (hP : va_P D vwCl (wf σ) H) (hD : va_D A (wf σ)) (hS : va_S A H0 H locs) (hA : ∀ q : Nat, H0.size ≤ q → A q) (hsz : ls.size = nL)
    (wr : va_W) (hp1 : (wf σ).Perm (wfc σc ++ wr)) (back : Sc → S) (hp2 : ∀ u, (wfc u ++ wr).Perm (wf (back u)))
    (As : List Value) (hM : gMv l y wc rm D tys wfc (.ref a :: As) σc f mc ms) (cw : CallW R s args own C index y bytes maxL none wc rm mc ms n) (he : (wf σ)[q0]? = some (a, .inr (ci, fs))) (hc : vwCl[ci]? = some cl0) (hC : cl0.1 = C) (hn : As.length = n) (hst : st0 = As.reverse ++ .ref a :: rest) (hW : (rest.map fun v => v.category).sum ≤ 8) (hdg : decode cc pc = .ok (.invokevirtual index, 3)) (hroom : cells + mc ≤ R.cells ∧ slots + ms ≤ R.slots) (hc2 : cells + mc = cells2) (hs2 : slots + ms = slots2)
    (kk : ∀ u : Sc, u = f → ∀ (H1 : Heap) (locs1 : List Loc), va_P D vwCl (wf (back u)) H1 → va_D A (wf (back u)) → va_S A H0 H1 locs1 → W p l e R s m args below meth c H1 locs1 cells2 slots2 Q (F0 m (pc + 3) ls rest)) : W p l e R s m args below meth c H locs cells slots Q (F0 m pc ls st0) := by
  subst hc2; subst hs2; subst hst
  have hP1 := va_P_perm hp1 hP
  have hD1 := va_D_perm hp1 hD
  have hF := g_free hD1 hS hA
  refine va_callv (va_runV (As := As) (rest := rest) ⟨hx, hb, hml, hown, hts⟩ (hM H.size) cw ⟨gPre_blind, ?_, fun U hU hW => ⟨rfl, by rw [hU], by rw [hU]; exact va_P_l hP1, va_K.moved hW.alike hK, (va_D_l hD1).weaken (fun _ _ _ _ => trivial)⟩⟩ rfl hn hsz rfl (lv_room hW) hdg hroom) hS (fun q _ h => hF q h) hF (fun u t H1 locs1 ht hvm hw hB hz1 hk1 hS1 => ?_)
  · obtain ⟨cell, h1, h2, h3⟩ := va_recv hK hP hc he
    exact ⟨cell, h1, h2, by rw [← hC]; exact h3⟩
  · obtain ⟨g1, g2⟩ := hB
    rw [ht] at g1
    obtain ⟨j1, j2⟩ := g_join hP1 hD1 hk1 hF g1 g2
    exact kk u hw H1 locs1 (va_P_perm (hp2 u) j1) (va_D_perm (hp2 u) j2) hS1
theorem g_calli {S Sc : Type} {wf : S → va_W} {σ : S} {wfc : Sc → va_W} {σc : Sc} {f : Int32 × Sc} {y : MethodName} {bytes : ByteArray} {maxL nL mc ms n index cells2 slots2 : Nat} {rt : FieldType} {wc : List Cond} {rm : Room} {Ts : List Cond} {own C : String} {ci q0 : Nat} {fs : List Value} {cl0 : vw_C}
    (hx : p.tables.exec = Jvm.exec) (hb : c.code = cc) (hml : c.maxLocals = nL) (hown : s.vm.findClass own = some m.cls) (hts : ∀ w ∈ Ts, w.before args s = true) (hK : va_K D vwCl tys s) (hP : va_P D vwCl (wf σ) H) (hD : va_D A (wf σ)) (hS : va_S A H0 H locs) (hA : ∀ q : Nat, H0.size ≤ q → A q) (hsz : ls.size = nL)
    (wr : va_W) (hp1 : (wf σ).Perm (wfc σc ++ wr)) (back : Sc → S) (hp2 : ∀ u, (wfc u ++ wr).Perm (wf (back u)))
    (As : List Value) (hM : gMi l y wc rm D tys wfc (.ref a :: As) σc f mc ms) (cw : CallW R s args own C index y bytes maxL (some rt) wc rm mc ms n) (he : (wf σ)[q0]? = some (a, .inr (ci, fs))) (hc : vwCl[ci]? = some cl0) (hC : cl0.1 = C) (hn : As.length = n) (hst : st0 = As.reverse ++ .ref a :: rest) (hW : (rest.map fun v => v.category).sum ≤ 8) (hdg : decode cc pc = .ok (.invokevirtual index, 3)) (hroom : cells + mc ≤ R.cells ∧ slots + ms ≤ R.slots) (hc2 : cells + mc = cells2) (hs2 : slots + ms = slots2)
    (kk : ∀ u : Int32 × Sc, u = f → ∀ (H1 : Heap) (locs1 : List Loc), va_P D vwCl (wf (back u.2)) H1 → va_D A (wf (back u.2)) → va_S A H0 H1 locs1 → W p l e R s m args below meth c H1 locs1 cells2 slots2 Q (F0 m (pc + 3) ls (.int u.1 :: rest))) : W p l e R s m args below meth c H locs cells slots Q (F0 m pc ls st0) := by
  subst hc2; subst hs2; subst hst
  have hP1 := va_P_perm hp1 hP
  have hD1 := va_D_perm hp1 hD
  have hF := g_free hD1 hS hA
  refine va_calli (va_runV (As := As) (rest := rest) ⟨hx, hb, hml, hown, hts⟩ (hM H.size) cw ⟨gPre_blind, ?_, fun U hU hW => ⟨rfl, by rw [hU], by rw [hU]; exact va_P_l hP1, va_K.moved hW.alike hK, (va_D_l hD1).weaken (fun _ _ _ _ => trivial)⟩⟩ rfl hn hsz rfl (lv_room hW) hdg hroom) hS (fun q _ h => hF q h) hF (fun r u t H1 locs1 ht hvm hw hB hz1 hk1 hS1 => ?_)
  · obtain ⟨cell, h1, h2, h3⟩ := va_recv hK hP hc he
    exact ⟨cell, h1, h2, by rw [← hC]; exact h3⟩
  · obtain ⟨g1, g2⟩ := hB
    rw [ht] at g1
    obtain ⟨j1, j2⟩ := g_join hP1 hD1 hk1 hF g1 g2
    exact kk (r, u) hw H1 locs1 (va_P_perm (hp2 u) j1) (va_D_perm (hp2 u) j2) hS1
/-- a static method that answers an int -/
theorem g_calls {S Sc : Type} {wf : S → va_W} {σ : S} {wfc : Sc → va_W} {σc : Sc} {f : Int32 × Sc} {y : MethodName} {bytes : ByteArray} {maxL nL mc ms n index cells2 slots2 : Nat} {rt : FieldType} {wc : List Cond} {rm : Room} {Ts : List Cond} {own : String}
    (hx : p.tables.exec = Jvm.exec) (hb : c.code = cc) (hml : c.maxLocals = nL) (hown : s.vm.findClass own = some m.cls) (hts : ∀ w ∈ Ts, w.before args s = true) (hK : va_K D vwCl tys s) (hP : va_P D vwCl (wf σ) H) (hD : va_D A (wf σ)) (hS : va_S A H0 H locs) (hA : ∀ q : Nat, H0.size ≤ q → A q) (hsz : ls.size = nL)
    (wr : va_W) (hp1 : (wf σ).Perm (wfc σc ++ wr)) (back : Sc → S) (hp2 : ∀ u, (wfc u ++ wr).Perm (wf (back u)))
    (As : List Value) (hM : gMi l y wc rm D tys wfc As σc f mc ms) (cw : CallB R s args own index y bytes maxL (some rt) wc rm mc ms n ∧ (Cond.static y).before args s = true) (hn : As.length = n) (hst : st0 = As.reverse ++ rest) (hW : (rest.map fun v => v.category).sum ≤ 8) (hdg : decode cc pc = .ok (.invokestatic index, 3)) (hroom : cells + mc ≤ R.cells ∧ slots + ms ≤ R.slots) (hc2 : cells + mc = cells2) (hs2 : slots + ms = slots2)
    (kk : ∀ u : Int32 × Sc, u = f → ∀ (H1 : Heap) (locs1 : List Loc), va_P D vwCl (wf (back u.2)) H1 → va_D A (wf (back u.2)) → va_S A H0 H1 locs1 → W p l e R s m args below meth c H1 locs1 cells2 slots2 Q (F0 m (pc + 3) ls (.int u.1 :: rest))) : W p l e R s m args below meth c H locs cells slots Q (F0 m pc ls st0) := by
  subst hc2; subst hs2; subst hst
  have hP1 := va_P_perm hp1 hP
  have hD1 := va_D_perm hp1 hD
  have hF := g_free hD1 hS hA
  refine va_calli (va_runS (As := As) (rest := rest) ⟨hx, hb, hml, hown, hts⟩ (hM H.size) cw ⟨gPre_blind, fun U hU hW => ⟨rfl, by rw [hU], by rw [hU]; exact va_P_l hP1, va_K.moved hW.alike hK, (va_D_l hD1).weaken (fun _ _ _ _ => trivial)⟩⟩ rfl hn hsz rfl (lv_room hW) hdg hroom) hS (fun q _ h => hF q h) hF (fun r u t H1 locs1 ht hvm hw hB hz1 hk1 hS1 => ?_)
  obtain ⟨g1, g2⟩ := hB
  rw [ht] at g1
  obtain ⟨j1, j2⟩ := g_join hP1 hD1 hk1 hF g1 g2
  exact kk (r, u) hw H1 locs1 (va_P_perm (hp2 u) j1) (va_D_perm (hp2 u) j2) hS1
/-- calls that answer and leave the state -/
theorem g_callr {S Sc : Type} {wf : S → va_W} {σ : S} {wfc : Sc → va_W} {σc : Sc} {f : Int32} {y : MethodName} {bytes : ByteArray} {maxL nL mc ms n index cells2 slots2 : Nat} {rt : FieldType} {wc : List Cond} {rm : Room} {Ts : List Cond} {own C : String} {ci q0 : Nat} {fs : List Value} {cl0 : vw_C}
    (hx : p.tables.exec = Jvm.exec) (hb : c.code = cc) (hml : c.maxLocals = nL) (hown : s.vm.findClass own = some m.cls) (hts : ∀ w ∈ Ts, w.before args s = true) (hK : va_K D vwCl tys s) (hP : va_P D vwCl (wf σ) H) (hD : va_D A (wf σ)) (hS : va_S A H0 H locs) (hA : ∀ q : Nat, H0.size ≤ q → A q) (hsz : ls.size = nL)
    (wr : va_W) (hp1 : (wf σ).Perm (wfc σc ++ wr))
    (As : List Value) (hM : gMr l y wc rm D tys wfc (.ref a :: As) σc f mc ms) (cw : CallW R s args own C index y bytes maxL (some rt) wc rm mc ms n) (he : (wf σ)[q0]? = some (a, .inr (ci, fs))) (hc : vwCl[ci]? = some cl0) (hC : cl0.1 = C) (hn : As.length = n) (hst : st0 = As.reverse ++ .ref a :: rest) (hW : (rest.map fun v => v.category).sum ≤ 8) (hdg : decode cc pc = .ok (.invokevirtual index, 3)) (hroom : cells + mc ≤ R.cells ∧ slots + ms ≤ R.slots) (hc2 : cells + mc = cells2) (hs2 : slots + ms = slots2)
    (kk : ∀ r : Int32, r = f → ∀ (H1 : Heap) (locs1 : List Loc), va_P D vwCl (wf σ) H1 → va_D A (wf σ) → va_S A H0 H1 locs1 → W p l e R s m args below meth c H1 locs1 cells2 slots2 Q (F0 m (pc + 3) ls (.int r :: rest))) : W p l e R s m args below meth c H locs cells slots Q (F0 m pc ls st0) := by
  subst hc2; subst hs2; subst hst
  have hP1 := va_P_perm hp1 hP
  have hD1 := va_D_perm hp1 hD
  have hF := g_free hD1 hS hA
  refine va_calli (va_runV (As := As) (rest := rest) ⟨hx, hb, hml, hown, hts⟩ (hM H.size) cw ⟨gPre_blind, ?_, fun U hU hW => ⟨rfl, by rw [hU], by rw [hU]; exact va_P_l hP1, va_K.moved hW.alike hK, (va_D_l hD1).weaken (fun _ _ _ _ => trivial)⟩⟩ rfl hn hsz rfl (lv_room hW) hdg hroom) hS (fun q _ h => hF q h) hF (fun r u t H1 locs1 ht hvm hw hB hz1 hk1 hS1 => ?_)
  · obtain ⟨cell, h1, h2, h3⟩ := va_recv hK hP hc he
    exact ⟨cell, h1, h2, by rw [← hC]; exact h3⟩
  · obtain ⟨g1, g2⟩ := hB
    rw [ht] at g1
    obtain ⟨j1, j2⟩ := g_join hP1 hD1 hk1 hF g1 g2
    obtain ⟨hr, hu⟩ := Prod.mk.inj hw
    subst hu
    exact kk r hr H1 locs1 (va_P_perm hp1.symm j1) (va_D_perm hp1.symm j2) hS1
theorem g_callsr {S Sc : Type} {wf : S → va_W} {σ : S} {wfc : Sc → va_W} {σc : Sc} {f : Int32} {y : MethodName} {bytes : ByteArray} {maxL nL mc ms n index cells2 slots2 : Nat} {rt : FieldType} {wc : List Cond} {rm : Room} {Ts : List Cond} {own : String}
    (hx : p.tables.exec = Jvm.exec) (hb : c.code = cc) (hml : c.maxLocals = nL) (hown : s.vm.findClass own = some m.cls) (hts : ∀ w ∈ Ts, w.before args s = true) (hK : va_K D vwCl tys s) (hP : va_P D vwCl (wf σ) H) (hD : va_D A (wf σ)) (hS : va_S A H0 H locs) (hA : ∀ q : Nat, H0.size ≤ q → A q) (hsz : ls.size = nL)
    (wr : va_W) (hp1 : (wf σ).Perm (wfc σc ++ wr))
    (As : List Value) (hM : gMr l y wc rm D tys wfc As σc f mc ms) (cw : CallB R s args own index y bytes maxL (some rt) wc rm mc ms n ∧ (Cond.static y).before args s = true) (hn : As.length = n) (hst : st0 = As.reverse ++ rest) (hW : (rest.map fun v => v.category).sum ≤ 8) (hdg : decode cc pc = .ok (.invokestatic index, 3)) (hroom : cells + mc ≤ R.cells ∧ slots + ms ≤ R.slots) (hc2 : cells + mc = cells2) (hs2 : slots + ms = slots2)
    (kk : ∀ r : Int32, r = f → ∀ (H1 : Heap) (locs1 : List Loc), va_P D vwCl (wf σ) H1 → va_D A (wf σ) → va_S A H0 H1 locs1 → W p l e R s m args below meth c H1 locs1 cells2 slots2 Q (F0 m (pc + 3) ls (.int r :: rest))) : W p l e R s m args below meth c H locs cells slots Q (F0 m pc ls st0) := by
  subst hc2; subst hs2; subst hst
  have hP1 := va_P_perm hp1 hP
  have hD1 := va_D_perm hp1 hD
  have hF := g_free hD1 hS hA
  refine va_calli (va_runS (As := As) (rest := rest) ⟨hx, hb, hml, hown, hts⟩ (hM H.size) cw ⟨gPre_blind, fun U hU hW => ⟨rfl, by rw [hU], by rw [hU]; exact va_P_l hP1, va_K.moved hW.alike hK, (va_D_l hD1).weaken (fun _ _ _ _ => trivial)⟩⟩ rfl hn hsz rfl (lv_room hW) hdg hroom) hS (fun q _ h => hF q h) hF (fun r u t H1 locs1 ht hvm hw hB hz1 hk1 hS1 => ?_)
  obtain ⟨g1, g2⟩ := hB
  rw [ht] at g1
  obtain ⟨j1, j2⟩ := g_join hP1 hD1 hk1 hF g1 g2
  obtain ⟨hr, hu⟩ := Prod.mk.inj hw
  subst hu
  exact kk r hr H1 locs1 (va_P_perm hp1.symm j1) (va_D_perm hp1.symm j2) hS1
end GR
/-! frames: the callee's world is the caller's, or a part of it -/
theorem pm_0 {w : va_W} : w.Perm (w ++ []) := by rw [List.append_nil]
theorem pm_0b {w : va_W} : (w ++ []).Perm w := by rw [List.append_nil]
/-! THE REPUBLIC: 63 places: 0 itself, 1 rain, 2 shelters, 3 umbrellas, 4 citizens, 5.. shelters, 13.. umbrellas, 53.. citizens -/
abbrev obF (ad : Nat → Nat) (f : Nat → Int32) : List Value := [.ref (ad 1), .ref (ad 2), .ref (ad 3), .ref (ad 4), .int (f 4), .int (f 5), .int (f 6), .int (f 7), .int (f 8)]
abbrev shF (f : Nat → Int32) : List Value := [.int (f 0), .int (f 1), .int (f 2), .int (f 3), .int (f 4), .int (f 5), .int (f 6)]
abbrev umF (f : Nat → Int32) : List Value := [.int (f 0), .int (f 1), .int (f 2), .int (f 3), .int (f 4), .int (f 5)]
abbrev ciF (f : Nat → Int32) : List Value := [.int (f 0), .int (f 1), .int (f 2), .int (f 3), .int (f 4), .int (f 5), .int (f 6), .int (f 7), .int (f 8), .int (f 9), .int (f 10), .int (f 11), .int (f 12), .int (f 13), .int (f 14)]
def RC (cy : Nat → ClassId) (ad : Nat → Nat) (p : Nat) (f : Nat → Int32) : va_E :=
  if p = 0 then .inr (1, obF ad f) else if p = 1 then .inl (cy 0, 24, .inl f)
  else if p = 2 then .inl (cy 1, 8, .inr (.inr (.inr (.inr (fun i => some (ad (5 + i)))))))
  else if p = 3 then .inl (cy 2, 40, .inr (.inr (.inr (.inr (fun i => some (ad (13 + i)))))))
  else if p = 4 then .inl (cy 3, 10, .inr (.inr (.inr (.inr (fun i => some (ad (53 + i)))))))
  else if p < 13 then .inr (2, shF f) else if p < 53 then .inr (3, umF f) else .inr (0, ciF f)
abbrev RW (cy : Nat → ClassId) (ad : Nat → Nat) (σ : Sg) : va_W := WD 63 (RC cy ad) ad σ
abbrev Ty (cy : Nat → ClassId) : List (ClassId × FieldType) := [(cy 0, .int), (cy 1, .object "UmbrellaLand$Shelter"), (cy 2, .object "UmbrellaLand$Umbrella"), (cy 3, .object "UmbrellaLand$Citizen"), (cy 4, .long)]
section RWR
variable (cy : Nat → ClassId) (ad : Nat → Nat) (σ : Sg)
theorem RW_ob : (RW cy ad σ)[0]? = some (ad 0, .inr (1, obF ad (σ 0))) := WD_get (by decide) rfl
theorem RW_rn : (RW cy ad σ)[1]? = some (ad 1, .inl (cy 0, 24, .inl (σ 1))) := WD_get (by decide) rfl
theorem RW_as : (RW cy ad σ)[2]? = some (ad 2, .inl (cy 1, 8, .inr (.inr (.inr (.inr (fun i => some (ad (5 + i)))))))) := WD_get (by decide) rfl
theorem RW_au : (RW cy ad σ)[3]? = some (ad 3, .inl (cy 2, 40, .inr (.inr (.inr (.inr (fun i => some (ad (13 + i)))))))) := WD_get (by decide) rfl
theorem RW_ac : (RW cy ad σ)[4]? = some (ad 4, .inl (cy 3, 10, .inr (.inr (.inr (.inr (fun i => some (ad (53 + i)))))))) := WD_get (by decide) rfl
theorem RC_sh {i : Nat} (hi : i < 8) (f : Nat → Int32) : RC cy ad (5 + i) f = .inr (2, shF f) := by
  unfold RC
  rw [if_neg (by omega), if_neg (by omega), if_neg (by omega), if_neg (by omega), if_neg (by omega), if_pos (by omega)]
theorem RC_um {i : Nat} (hi : i < 40) (f : Nat → Int32) : RC cy ad (13 + i) f = .inr (3, umF f) := by
  unfold RC
  rw [if_neg (by omega), if_neg (by omega), if_neg (by omega), if_neg (by omega), if_neg (by omega), if_neg (by omega), if_pos (by omega)]
theorem RC_ci {i : Nat} (hi : i < 10) (f : Nat → Int32) : RC cy ad (53 + i) f = .inr (0, ciF f) := by
  unfold RC
  rw [if_neg (by omega), if_neg (by omega), if_neg (by omega), if_neg (by omega), if_neg (by omega), if_neg (by omega), if_neg (by omega)]
theorem RW_sh {i : Nat} (hi : i < 8) : (RW cy ad σ)[5 + i]? = some (ad (5 + i), .inr (2, shF (σ (5 + i)))) := WD_get (by omega) (RC_sh cy ad hi _)
theorem RW_um {i : Nat} (hi : i < 40) : (RW cy ad σ)[13 + i]? = some (ad (13 + i), .inr (3, umF (σ (13 + i)))) := WD_get (by omega) (RC_um cy ad hi _)
theorem RW_ci {i : Nat} (hi : i < 10) : (RW cy ad σ)[53 + i]? = some (ad (53 + i), .inr (0, ciF (σ (53 + i)))) := WD_get (by omega) (RC_ci cy ad hi _)
end RWR
theorem shF_set (f : Nat → Int32) (v : Int32) : ∀ k, k < 7 → (shF f).set k (.int v) = shF (upd f k v)
  | 0, _ => rfl
  | 1, _ => rfl
  | 2, _ => rfl
  | 3, _ => rfl
  | 4, _ => rfl
  | 5, _ => rfl
  | 6, _ => rfl
  | k + 7, h => absurd h (by omega)
theorem umF_set (f : Nat → Int32) (v : Int32) : ∀ k, k < 6 → (umF f).set k (.int v) = umF (upd f k v)
  | 0, _ => rfl
  | 1, _ => rfl
  | 2, _ => rfl
  | 3, _ => rfl
  | 4, _ => rfl
  | 5, _ => rfl
  | k + 6, h => absurd h (by omega)
theorem ciF_set (f : Nat → Int32) (v : Int32) : ∀ k, k < 15 → (ciF f).set k (.int v) = ciF (upd f k v)
  | 0, _ => rfl
  | 1, _ => rfl
  | 2, _ => rfl
  | 3, _ => rfl
  | 4, _ => rfl
  | 5, _ => rfl
  | 6, _ => rfl
  | 7, _ => rfl
  | 8, _ => rfl
  | 9, _ => rfl
  | 10, _ => rfl
  | 11, _ => rfl
  | 12, _ => rfl
  | 13, _ => rfl
  | 14, _ => rfl
  | k + 15, h => absurd h (by omega)
theorem obF_set (ad : Nat → Nat) (f : Nat → Int32) (v : Int32) : ∀ k, 4 ≤ k → k < 9 → (obF ad f).set k (.int v) = obF ad (upd f k v)
  | 0, h, _ => absurd h (by omega)
  | 1, h, _ => absurd h (by omega)
  | 2, h, _ => absurd h (by omega)
  | 3, h, _ => absurd h (by omega)
  | 4, _, _ => rfl
  | 5, _, _ => rfl
  | 6, _, _ => rfl
  | 7, _, _ => rfl
  | 8, _, _ => rfl
  | k + 9, _, h => absurd h (by omega)
section RWS
variable (cy : Nat → ClassId) (ad : Nat → Nat) (σ : Sg)
theorem RW_ob_set (k : Nat) (h : 4 ≤ k ∧ k < 9) (v : Int32) : (RW cy ad σ).set 0 (ad 0, .inr (1, (obF ad (σ 0)).set k (.int v))) = RW cy ad (up σ 0 k v) := WD_set (by rw [obF_set _ _ _ k h.1 h.2]; rfl)
theorem RW_rn_set (k : Nat) (v : Int32) : (RW cy ad σ).set 1 (ad 1, .inl (cy 0, 24, .inl (upd (σ 1) k v))) = RW cy ad (up σ 1 k v) := WD_set rfl
theorem RW_sh_set {i : Nat} (hi : i < 8) (k : Nat) (h : k < 7) (v : Int32) : (RW cy ad σ).set (5 + i) (ad (5 + i), .inr (2, (shF (σ (5 + i))).set k (.int v))) = RW cy ad (up σ (5 + i) k v) := WD_set (by rw [shF_set _ _ k h]; exact RC_sh cy ad hi _)
theorem RW_um_set {i : Nat} (hi : i < 40) (k : Nat) (h : k < 6) (v : Int32) : (RW cy ad σ).set (13 + i) (ad (13 + i), .inr (3, (umF (σ (13 + i))).set k (.int v))) = RW cy ad (up σ (13 + i) k v) := WD_set (by rw [umF_set _ _ k h]; exact RC_um cy ad hi _)
theorem RW_ci_set {i : Nat} (hi : i < 10) (k : Nat) (h : k < 15) (v : Int32) : (RW cy ad σ).set (53 + i) (ad (53 + i), .inr (0, (ciF (σ (53 + i))).set k (.int v))) = RW cy ad (up σ (53 + i) k v) := WD_set (by rw [ciF_set _ _ k h]; exact RC_ci cy ad hi _)
end RWS
def w0 : Unit → va_W := fun _ => []
abbrev m_max (x y : Int32) : Int32 := if x < y then y else x
abbrev m_min (x y : Int32) : Int32 := if y < x then y else x
abbrev m_abs (x : Int32) : Int32 := if 0 ≤ x then x else 0 - x
theorem tn_nI {n : Nat} (h : n < 2 ^ 31) : tn (nI n) = n := nI_clamp h
theorem tn_eq {x : Int32} {n : Nat} (h : vp_in x n) (hn : n < 2 ^ 31) : x = nI (tn x) := by
  obtain ⟨j, hj, rfl⟩ := vp_in_of h hn
  rw [tn_nI (by omega)]
theorem ts_out (n : Nat) (hn : n < 2 ^ 31) (x : Int32) (h : ∀ j, j < n → ¬ x = nI j) : x.toInt < 0 ∨ (n : Int) - 1 < x.toInt := by
  by_cases h0 : x.toInt < 0
  · exact Or.inl h0
  · by_cases h1 : (n : Int) - 1 < x.toInt
    · exact Or.inr h1
    · obtain ⟨j, hj, e⟩ := vp_in_of (vp_in_iff.mpr ⟨by omega, by omega⟩ : vp_in x n) hn
      exact absurd e (h j hj)
/-! counts are in their bounds -/
def OkR (σ : Sg) : Prop := (σ 0 5 = nI (tn (σ 0 5)) ∧ tn (σ 0 5) ≤ 8) ∧ (σ 0 6 = nI (tn (σ 0 6)) ∧ tn (σ 0 6) ≤ 40) ∧ (σ 0 7 = nI (tn (σ 0 7)) ∧ tn (σ 0 7) ≤ 10)
theorem OkR.c5 {σ : Sg} (h : OkR σ) : σ 0 5 = nI (tn (σ 0 5)) := h.1.1
theorem OkR.n5 {σ : Sg} (h : OkR σ) : tn (σ 0 5) ≤ 8 := h.1.2
theorem OkR.c6 {σ : Sg} (h : OkR σ) : σ 0 6 = nI (tn (σ 0 6)) := h.2.1.1
theorem OkR.n6 {σ : Sg} (h : OkR σ) : tn (σ 0 6) ≤ 40 := h.2.1.2
theorem OkR.c7 {σ : Sg} (h : OkR σ) : σ 0 7 = nI (tn (σ 0 7)) := h.2.2.1
theorem OkR.n7 {σ : Sg} (h : OkR σ) : tn (σ 0 7) ≤ 10 := h.2.2.2
theorem OkR.mv {σ τ : Sg} (h : OkR σ) (hz : τ 0 = σ 0) : OkR τ := by unfold OkR; rw [hz]; exact h
theorem OkR_upn {σ u : Sg} {p k : Nat} {v : Int32} (e : u = up σ p k v) (hp : p ≠ 0) (h : OkR σ) : OkR u := h.mv (by rw [e]; exact up_row_ne σ k v (fun q => hp q.symm))
theorem OkR_up0 {σ u : Sg} {k : Nat} {v : Int32} (e : u = up σ 0 k v) (hk : k ≠ 5 ∧ k ≠ 6 ∧ k ≠ 7) (h : OkR σ) : OkR u := by
  have h5 : u 0 5 = σ 0 5 := by rw [e]; exact up_ne σ v (fun q => hk.1 q.2.symm)
  have h6 : u 0 6 = σ 0 6 := by rw [e]; exact up_ne σ v (fun q => hk.2.1 q.2.symm)
  have h7 : u 0 7 = σ 0 7 := by rw [e]; exact up_ne σ v (fun q => hk.2.2 q.2.symm)
  unfold OkR
  rw [h5, h6, h7]
  exact h
theorem z_up {σ u : Sg} {b : Nat → Int32} {p k : Nat} {v : Int32} (e : u = up σ p k v) (hp : p ≠ 0) (hz : σ 0 = b) : u 0 = b := by
  rw [e, up_row_ne σ k v (fun q => hp q.symm)]; exact hz
end
