-- THE CLAIM OUT OF ONE WALK OF THE BODY (the first rows and 43 began as the printed skeleton)
def R_law : String := "LocalBoundsLaw"
def lw_P (b : Addr) (xs : List Int32) (args : Array Value) (s : State) : Prop := args = #[.ref b] ∧ s.IntsAt b xs ∧ xs.length ≤ 3074 ∧ (Jvm.Cond.and given_1 narrow_1).before args s = true
def lw_Q (_ : Array Value) (s : State) (o : Outcome) (t : State) : Prop := o = .returned (some (.int 1)) ∧ Framed s o t [] 601024 7293000
def lw_Z (below : List Frame) (a : Array Value) (s : State) : State → Prop := fun t => ∃ o, t.status = .running ∧ Ended t below o ∧ lw_Q a s o t
/-- the law's own end, with 1 on the stack, nothing written that was there before, its room as the claim has it -/
theorem lw_ret {p : Program} {l : Launch} {e : Env} {s : State} {m : MethodId} {below : List Frame} {meth : Method} {c : Code} {b : Nat} (hx : p.tables.exec = Jvm.exec) (hb : c.code = code) (hr : meth.sig.returnType = ret) (hlocks : meth.locks = false) {pc : Nat} {H : Heap} {ls : Array Slot} (hdg : decode code pc = .ok (.ireturn, 1)) : W p l e room_1 s m #[Value.ref b] below meth c H [] 601024 7293000 (lw_Z below #[Value.ref b] s) (F0 m pc ls [.int 1]) := by
  intro T hT X
  obtain ⟨fs, hret, hrun, hended, hW, hframe⟩ := X.leave (v := some (.int 1)) (hlocks := hlocks) (fun h => by rw [hr] at h; cases h)
  have hmeth' : T.vm.method? m = some meth := X.method'
  refine ⟨T.setFrames fs, ?_, .returned (some (.int 1)), hrun, hended, rfl, ⟨_, rfl⟩, hW, hframe⟩
  jvm_step X.here [X.here.top, hx, hb, hdg, hmeth', hr, ret, narrow_b1]
  (try refine ⟨rfl, ?_⟩); (try refine ⟨rfl, ?_⟩)
  first | (intro acts; rw [hret _ acts rfl rfl rfl]) | rw [hret _ _ rfl rfl rfl]
  exact Steps.refl _
/-- what holds at the law's entry: the machine, the code, the tables' words (any of lw_tbl by 'hts w (by decide +kernel)'), the script of L ints xs at the cell b, what the Statement gives of the start (any of its parts by flat_of_before) -/
def lw_At (p : Program) (s : State) (m : MethodId) (meth : Method) (c : Code) (b L : Nat) (xs : Nat → Int32) : Prop :=
  p.tables.exec = Jvm.exec ∧ c.code = code ∧ meth.sig.returnType = ret ∧ c.maxLocals = 8 ∧ s.vm.findClass R_law = some m.cls ∧ (∀ w ∈ lw_tbl, w.before #[Value.ref b] s = true) ∧ va_X b L xs s s.heap ∧ b < s.heap.size ∧ meth.locks = false ∧ (Jvm.Cond.and given_1 narrow_1).before #[Value.ref b] s = true
theorem ng_I : (∀ w ∈ wsNg exI, w ∈ lw_tbl) ∧ ∀ w ∈ wsNg exI, w.onTables = true := ⟨by decide +kernel, by decide +kernel⟩
theorem ng_X : (∀ w ∈ wsNg exX, w ∈ lw_tbl) ∧ ∀ w ∈ wsNg exX, w.onTables = true := ⟨by decide +kernel, by decide +kernel⟩
theorem ng_S : ∀ q ∈ q_strs, Cond.stringRef RX0 q.1 q.2 ∈ lw_tbl := by decide +kernel
theorem ng_Z : (Cond.laysStatic Bundle.tN "UNASSIGNED_STACK" Bundle.steD ∈ lw_tbl ∧ Cond.laysStatic Bundle.tN "SUPPRESSED_SENTINEL" Bundle.listD ∈ lw_tbl) ∧ Cond.initialized Bundle.tN ∈ lw_tbl := ⟨⟨by decide +kernel, by decide +kernel⟩, by decide +kernel⟩
theorem whole_start {p : Program} {e : Env} {s : State} {m : MethodId} {below : List Frame} {meth : Method} {c : Code} (l : Launch) (hflags : l.flags = flags0) {b L : Nat} {xs : Nat → Int32} (hL : L ≤ 3074) (C0 : lw_At p s m meth c b L xs) : W p l e room_1 s m #[Value.ref b] below meth c s.heap [] 0 0 (lw_Z below #[Value.ref b] s) (entryFrame m ([Value.ref b] : List Value).toArray 8) := by
  obtain ⟨hx, hb, hr, hml, hown, hts, hX, hbl, hlocks, hgv⟩ := C0
  have hg := flat_of_before _ hgv
  have hst : l.stackTraces = false := by
    unfold Launch.stackTraces
    rw [hflags]
    decide +kernel
  have hAb : ∀ a : Nat, a < s.heap.size → ¬ (fun q : Nat => s.heap.size ≤ q) a := fun a h => Nat.not_le.mpr h
  have hPn : q_Pn s := ⟨fun w hw => va_Nw.of (ng_I.2 w hw) (hts w (ng_I.1 w hw)), fun w hw => va_Nw.of (ng_X.2 w hw) (hts w (ng_X.1 w hw)), fun q hq => q_str (hts _ (ng_S q hq))⟩
  have hZs : q_Zs (fun q : Nat => s.heap.size ≤ q) s s.heap := ⟨vx_Zqof (hts _ ng_Z.1.1) (hts _ ng_Z.2) (hg _ (by decide +kernel)) hAb, vx_Zqof (hts _ ng_Z.1.2) (hts _ ng_Z.2) (hg _ (by decide +kernel)) hAb⟩
  have hNc : va_Nc exI exX s := va_Nc.of (hg _ (by decide +kernel))
  exact start_law hL hx hb hml hown (fun w hw => hts w (wsL_law_in w hw)) hst hPn hZs hNc hX hbl ⟨by decide, by decide⟩ ⟨by decide, by decide⟩ (fun H ls => lw_ret hx hb hr hlocks dL_law_931)
