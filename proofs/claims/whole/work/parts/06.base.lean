/-! what every contract here shares: the world, the statics, the calls -/
def sw_G (tq : Nat) (A : Nat → Prop) (U : State) (H : Heap) : Prop :=
  va_Z "SectorWalk" "QUARTER_COSINES" "[I" (.ref tq) A U H ∧ va_T .int tq 17 (fun j => .int (sw_cos j)) A U H ∧ ∀ q ∈ sw_nest, va_Nw (.methodLinkNest q.1 q.2.1 q.2.2.1 q.2.2.2) U
theorem sw_G.nest {tq : Nat} {A : Nat → Prop} {U : State} {H : Heap} (h : sw_G tq A U H) {a hh : String} {i : Nat} {x : MethodName} (hq : (a, i, x, hh) ∈ sw_nest) : va_Nw (.methodLinkNest a i x hh) U := h.2.2 _ hq
theorem sw_G.calling {tq : Nat} {A : Nat → Prop} {U : State} (h : sw_G tq A U U.heap) (g : JFrame) (mk : MethodId) (a : Array Value) : sw_G tq A (U.calling g mk a) (U.calling g mk a).heap :=
  ⟨va_Z.moved (u := U) (U := U.calling g mk a) (Vm.Alike.refl U.vm) h.1, va_T.moved (u := U) (U := U.calling g mk a) (Vm.Alike.refl U.vm) h.2.1, fun q hq => va_Nw.same (u := U) rfl rfl (h.2.2 q hq)⟩
theorem sw_G.call {tq : Nat} {A B : Nat → Prop} {s U : State} {H : Heap} {locs : List Loc} (h : sw_G tq A s s.heap) (hS : va_S A s.heap H locs) (hF : ∀ q, B q → A q) (hU : U.heap = H) (hW : s.WarmedH U.vm) : sw_G tq B U U.heap := by
  obtain ⟨h1, h2, h3⟩ := h
  subst hU
  exact ⟨((h1.kept hS.2.1).narrow hF).moved hW.alike, ((h2.kept hS.2.1).narrow hF).moved hW.alike, fun q hq => va_Nw.warmM hW (h3 q hq)⟩
def sw_B (D : va_G) (cI cL : ClassId) (tq sz : Nat) (ws : va_W) (U : State) : Prop :=
  U.heap.size = sz ∧ va_P D sw_cl ws U.heap ∧ va_K D sw_cl [(cI, .int), (cL, .long)] U ∧ va_D (fun _ => True) ws ∧ sw_G tq (va_A ws sz) U U.heap
def sw_R {S : Type} (D : va_G) (A : Nat → Prop) (W' : S → va_W) (u : S) (t : State) : Prop := va_P D sw_cl (W' u) t.heap ∧ va_D A (W' u)
theorem sw_blind {av : List Value} {D : va_G} {cI cL : ClassId} {tq sz : Nat} {ws : va_W} : FrameBlind (va_Pc av (sw_B D cI cL tq sz ws)) := fun a U g mk q => by
  obtain ⟨q0, q1, qP, qK, qD, qG⟩ := q
  exact ⟨q0, q1, qP, va_K.moved (u := U) (U := U.calling g mk a) (Vm.Alike.refl U.vm) qK, qD, qG.calling g mk a⟩
theorem sw_uni {D : va_G} {cl : List vw_C} {cI cL cA : ClassId} {U : State} (h : va_K D cl ([(cI, .int), (cL, .long)] ++ [(cA, .int)]) U) : cI = cA := by
  have h1 : U.vm.findClass ("[" ++ FieldType.int.toString) = some cI := (h.2 0 _ rfl).2
  have h2 : U.vm.findClass ("[" ++ FieldType.int.toString) = some cA := (h.2 2 _ rfl).2
  exact Option.some.inj (h1.symm.trans h2)
theorem sw_uniL {D : va_G} {cl : List vw_C} {cI cL cA : ClassId} {U : State} (h : va_K D cl ([(cI, .int), (cL, .long)] ++ [(cA, .long)]) U) : cL = cA := by
  have h1 : U.vm.findClass ("[" ++ FieldType.long.toString) = some cL := (h.2 1 _ rfl).2
  have h2 : U.vm.findClass ("[" ++ FieldType.long.toString) = some cA := (h.2 2 _ rfl).2
  exact Option.some.inj (h1.symm.trans h2)
/-- a contract by a walk, also for a method of a class that has natives beside it -/
theorem sw_ofW {l : Launch} {y : MethodName} {ws ws' : List Cond} {rm : Room} {Pc : Array Value → State → Prop} {Qc : Array Value → State → Outcome → State → Prop} {mc ms : Nat} {free : Addr → Prop} {cc : ByteArray} {maxL : Nat} {ret : Option FieldType}
    (hy : plainFor y = true) (hw : ws = Cond.code y cc maxL ret :: ws')
    (body : ∀ p e s m args below meth c s₁, BodyLoose p l y (headSpec ws rm) cc maxL ret e s m args below meth c s₁ → c.maxLocals = maxL → Pc args s →
      W p l e (headSpec ws rm).room s m args below meth c s.heap [] 0 0 (MQ below Qc args s mc ms free) (entryFrame m args maxL)) : Met l y ws rm Pc Qc mc ms free := by
  refine MetFree.of_bodySF (code := cc) (maxLocals := maxL) (ret := ret) hy ?_ ?_
  · intro args s m h hn
    obtain ⟨meth, c, h1, h2, h3, h4, h5, h6, -, -⟩ := Cond.code_spec hn (atoms_spec (ws := ws) h _ (by rw [hw]; exact List.mem_cons_self))
    exact ⟨meth, c, h1, h2, h3, h4, h5, h6⟩
  · intro p e s m args below meth c s₁ B hml hP _
    have hh0 : s₁.heap = s.heap := by rw [B.state]; rfl
    obtain ⟨t, a1, o, b1, b2, b3⟩ := body p e s m args below meth c s₁ B hml hP s₁ hh0 (Stand.of_body B)
    exact ⟨t, o, a1, b1, b2, ⟨b3.1, b3.2⟩⟩
theorem sw_fmo {α β : Type} {f : α → Option β} : ∀ {l : List α} {w : List β}, l.map f = w.map some → l.filterMap f = w := by
  intro l
  induction l with
  | nil => intro w h; cases w with
    | nil => rfl
    | cons b w => simp at h
  | cons a l ih => intro w h; cases w with
    | nil => simp at h
    | cons b w => simp only [List.map_cons, List.cons.injEq] at h; rw [List.filterMap_cons, h.1]; simp only [ih h.2]
section SWC
variable {p : Program} {l : Launch} {e : Env} {R : Room} {s : State} {m : MethodId} {args : Array Value} {below : List Frame} {meth : Method} {c : Code} {H : Heap} {locs : List Loc} {cells slots : Nat} {Q : State → Prop}
variable {pc : Nat} {ls : Array Slot} {rest st0 : List Value} {a : Array Value} {A : Nat → Prop} {mc ms : Nat} {D : va_G} {cI cL : ClassId} {tq : Nat} {ws wc wr : va_W} {As : List Value}
theorem sw_pre (hK : va_K D sw_cl [(cI, .int), (cL, .long)] s) (hP : va_P D sw_cl ws H) (hD : va_D A ws) (hS : va_S A s.heap H locs) (hA : ∀ q, s.heap.size ≤ q → A q) (hG : sw_G tq A s s.heap) (isC : List Nat) (hC : isC.map (fun i => ws[i]?) = wc.map some) (hn : va_nd isC = true) :
    ∀ U : State, U.heap = H → s.WarmedH U.vm → va_Pc As (sw_B D cI cL tq H.size wc) As.toArray U := fun U hU hW =>
  ⟨rfl, by rw [hU], by rw [hU]; exact hP.sub isC (sw_fmo hC), va_K.moved hW.alike hK, (hD.sub isC hn hC).weaken (fun _ _ _ _ => trivial), hG.call hS (va_free hD hS hA isC hC) hU hW⟩
theorem sw_preS (hK : va_K D sw_cl [(cI, .int), (cL, .long)] s) (hP : va_P D sw_cl ws H) (hD : va_D A ws) (hS : va_S A s.heap H locs) (hA : ∀ q, s.heap.size ≤ q → A q) (hG : sw_G tq A s s.heap) (isC : List Nat) (hC : isC.map (fun i => ws[i]?) = wc.map some) (hn : va_nd isC = true) : PreS s H (va_Pc As (sw_B D cI cL tq H.size wc)) As :=
  ⟨sw_blind, sw_pre hK hP hD hS hA hG isC hC hn⟩
theorem sw_preV {b : Nat} {C : String} {T : u_T} {N : Nat} {fs : List Value} (hK : va_K D sw_cl [(cI, .int), (cL, .long)] s) (hP : va_P D sw_cl ws H) (hD : va_D A ws) (hS : va_S A s.heap H locs) (hA : ∀ q, s.heap.size ≤ q → A q) (hG : sw_G tq A s s.heap) (isC : List Nat) (hC : isC.map (fun i => ws[i]?) = wc.map some) (hn : va_nd isC = true) (ci q0 : Nat) (hc : sw_cl[ci]? = some (C, T, N)) (he : ws[q0]? = some (b, .inr (ci, fs))) : PreV s H C b (va_Pc (.ref b :: As) (sw_B D cI cL tq H.size wc)) As :=
  ⟨sw_blind, va_recv hK hP hc he, sw_pre hK hP hD hS hA hG isC hC hn⟩
theorem sw_ki {S : Type} {post : Int32 → S → Prop} {W' : S → va_W} (hr : va_Run p l e R s m args below meth c H locs cells slots mc ms (F0 m pc ls st0) rest (va_Qi post (sw_R D (va_A wc H.size) W') (va_A wc H.size) a) (va_A wc H.size)) (hP : va_P D sw_cl ws H) (hD : va_D A ws) (hS : va_S A s.heap H locs) (hA : ∀ q, s.heap.size ≤ q → A q) (isC isR : List Nat) (hC : isC.map (fun i => ws[i]?) = wc.map some) (hR : isR.map (fun i => ws[i]?) = wr.map some) (hn : va_nd isR = true) (hdis : ∀ i ∈ isR, i ∉ isC)
    (kk : ∀ (r : Int32) (u : S) (H1 : Heap) (locs1 : List Loc), post r u → va_P D sw_cl (wr ++ W' u) H1 → va_D A (wr ++ W' u) → va_S A s.heap H1 locs1 → W p l e R s m args below meth c H1 locs1 (cells + mc) (slots + ms) Q (F0 m (pc + 3) ls (.int r :: rest))) : W p l e R s m args below meth c H locs cells slots Q (F0 m pc ls st0) := by
  have hF := va_free hD hS hA isC hC
  refine va_calli hr hS (fun q _ h => hF q h) hF (fun r u t H1 locs1 ht hvm hp hB hz hk hS1 => ?_)
  obtain ⟨hP1, hD1⟩ := hB
  rw [ht] at hP1
  obtain ⟨x, y⟩ := va_join hP hD isC isR hC hR hn hdis hk hF hP1 hD1
  exact kk r u H1 locs1 hp x y hS1
theorem sw_kl {S : Type} {post : Int64 → S → Prop} {W' : S → va_W} (hr : va_Run p l e R s m args below meth c H locs cells slots mc ms (F0 m pc ls st0) rest (va_Ql post (sw_R D (va_A wc H.size) W') (va_A wc H.size) a) (va_A wc H.size)) (hP : va_P D sw_cl ws H) (hD : va_D A ws) (hS : va_S A s.heap H locs) (hA : ∀ q, s.heap.size ≤ q → A q) (isC isR : List Nat) (hC : isC.map (fun i => ws[i]?) = wc.map some) (hR : isR.map (fun i => ws[i]?) = wr.map some) (hn : va_nd isR = true) (hdis : ∀ i ∈ isR, i ∉ isC)
    (kk : ∀ (r : Int64) (u : S) (H1 : Heap) (locs1 : List Loc), post r u → va_P D sw_cl (wr ++ W' u) H1 → va_D A (wr ++ W' u) → va_S A s.heap H1 locs1 → W p l e R s m args below meth c H1 locs1 (cells + mc) (slots + ms) Q (F0 m (pc + 3) ls (.long r :: rest))) : W p l e R s m args below meth c H locs cells slots Q (F0 m pc ls st0) := by
  have hF := va_free hD hS hA isC hC
  refine va_calll hr hS (fun q _ h => hF q h) hF (fun r u t H1 locs1 ht hvm hp hB hz hk hS1 => ?_)
  obtain ⟨hP1, hD1⟩ := hB
  rw [ht] at hP1
  obtain ⟨x, y⟩ := va_join hP hD isC isR hC hR hn hdis hk hF hP1 hD1
  exact kk r u H1 locs1 hp x y hS1
theorem sw_kv {S : Type} {post : S → Prop} {W' : S → va_W} (hr : va_Run p l e R s m args below meth c H locs cells slots mc ms (F0 m pc ls st0) rest (va_Qv post (sw_R D (va_A wc H.size) W') (va_A wc H.size) a) (va_A wc H.size)) (hP : va_P D sw_cl ws H) (hD : va_D A ws) (hS : va_S A s.heap H locs) (hA : ∀ q, s.heap.size ≤ q → A q) (isC isR : List Nat) (hC : isC.map (fun i => ws[i]?) = wc.map some) (hR : isR.map (fun i => ws[i]?) = wr.map some) (hn : va_nd isR = true) (hdis : ∀ i ∈ isR, i ∉ isC)
    (kk : ∀ (u : S) (H1 : Heap) (locs1 : List Loc), post u → va_P D sw_cl (wr ++ W' u) H1 → va_D A (wr ++ W' u) → va_S A s.heap H1 locs1 → W p l e R s m args below meth c H1 locs1 (cells + mc) (slots + ms) Q (F0 m (pc + 3) ls rest)) : W p l e R s m args below meth c H locs cells slots Q (F0 m pc ls st0) := by
  have hF := va_free hD hS hA isC hC
  refine va_callv hr hS (fun q _ h => hF q h) hF (fun u t H1 locs1 ht hvm hp hB hz hk hS1 => ?_)
  obtain ⟨hP1, hD1⟩ := hB
  rw [ht] at hP1
  obtain ⟨x, y⟩ := va_join hP hD isC isR hC hR hn hdis hk hF hP1 hD1
  exact kk u H1 locs1 hp x y hS1
theorem sw_ki0 {S : Type} {post : Int32 → S → Prop} {W' : S → va_W} (hr : va_Run p l e R s m args below meth c H locs cells slots 0 0 (F0 m pc ls st0) rest (va_Qi post (sw_R D (va_A wc H.size) W') (va_A wc H.size) a) (va_A wc H.size)) (hP : va_P D sw_cl ws H) (hD : va_D A ws) (hS : va_S A s.heap H locs) (hA : ∀ q, s.heap.size ≤ q → A q) (isC isR : List Nat) (hC : isC.map (fun i => ws[i]?) = wc.map some) (hR : isR.map (fun i => ws[i]?) = wr.map some) (hn : va_nd isR = true) (hdis : ∀ i ∈ isR, i ∉ isC)
    (kk : ∀ (r : Int32) (u : S) (H1 : Heap) (locs1 : List Loc), post r u → va_P D sw_cl (wr ++ W' u) H1 → va_D A (wr ++ W' u) → va_S A s.heap H1 locs1 → W p l e R s m args below meth c H1 locs1 cells slots Q (F0 m (pc + 3) ls (.int r :: rest))) : W p l e R s m args below meth c H locs cells slots Q (F0 m pc ls st0) :=
  sw_ki hr hP hD hS hA isC isR hC hR hn hdis kk
theorem sw_kl0 {S : Type} {post : Int64 → S → Prop} {W' : S → va_W} (hr : va_Run p l e R s m args below meth c H locs cells slots 0 0 (F0 m pc ls st0) rest (va_Ql post (sw_R D (va_A wc H.size) W') (va_A wc H.size) a) (va_A wc H.size)) (hP : va_P D sw_cl ws H) (hD : va_D A ws) (hS : va_S A s.heap H locs) (hA : ∀ q, s.heap.size ≤ q → A q) (isC isR : List Nat) (hC : isC.map (fun i => ws[i]?) = wc.map some) (hR : isR.map (fun i => ws[i]?) = wr.map some) (hn : va_nd isR = true) (hdis : ∀ i ∈ isR, i ∉ isC)
    (kk : ∀ (r : Int64) (u : S) (H1 : Heap) (locs1 : List Loc), post r u → va_P D sw_cl (wr ++ W' u) H1 → va_D A (wr ++ W' u) → va_S A s.heap H1 locs1 → W p l e R s m args below meth c H1 locs1 cells slots Q (F0 m (pc + 3) ls (.long r :: rest))) : W p l e R s m args below meth c H locs cells slots Q (F0 m pc ls st0) :=
  sw_kl hr hP hD hS hA isC isR hC hR hn hdis kk
theorem sw_kv0 {S : Type} {post : S → Prop} {W' : S → va_W} (hr : va_Run p l e R s m args below meth c H locs cells slots 0 0 (F0 m pc ls st0) rest (va_Qv post (sw_R D (va_A wc H.size) W') (va_A wc H.size) a) (va_A wc H.size)) (hP : va_P D sw_cl ws H) (hD : va_D A ws) (hS : va_S A s.heap H locs) (hA : ∀ q, s.heap.size ≤ q → A q) (isC isR : List Nat) (hC : isC.map (fun i => ws[i]?) = wc.map some) (hR : isR.map (fun i => ws[i]?) = wr.map some) (hn : va_nd isR = true) (hdis : ∀ i ∈ isR, i ∉ isC)
    (kk : ∀ (u : S) (H1 : Heap) (locs1 : List Loc), post u → va_P D sw_cl (wr ++ W' u) H1 → va_D A (wr ++ W' u) → va_S A s.heap H1 locs1 → W p l e R s m args below meth c H1 locs1 cells slots Q (F0 m (pc + 3) ls rest)) : W p l e R s m args below meth c H locs cells slots Q (F0 m pc ls st0) :=
  sw_kv hr hP hD hS hA isC isR hC hR hn hdis kk
end SWC
/-! the words that all methods here share -/
theorem sw_gN {y : MethodName} {b : ByteArray} {n : Nat} {ret : Option FieldType} (h : Cond.code y b n ret ∈ sw_words) : GoodIn sw_words (.code y b n ret :: sw_words) := by
  intro w hw
  rcases List.mem_cons.mp hw with rfl | hw
  · exact sw_good _ h
  · exact sw_good _ hw
theorem sw_gV {own C : String} {i : Nat} {y : MethodName} {b : ByteArray} {n : Nat} {ret : Option FieldType} (h1 : Cond.methodLink own i y ∈ sw_words) (h2 : Cond.instanceMethod y ∈ sw_words) (h3 : Cond.selects C y y ∈ sw_words) (h4 : Cond.initialized C ∈ sw_words) (h : Cond.code y b n ret ∈ sw_words) : GoodIn sw_words (wsV own i C y (.code y b n ret :: sw_words)) := by
  intro w hw
  unfold wsV at hw
  rcases List.mem_append.mp hw with hw | hw
  · simp only [List.mem_cons, List.not_mem_nil, or_false] at hw
    rcases hw with rfl | rfl | rfl | rfl
    · exact sw_good _ h1
    · exact sw_good _ h2
    · exact sw_good _ h3
    · exact sw_good _ h4
  · exact sw_gN h w hw
theorem sw_gS {own : String} {i : Nat} {y : MethodName} {b : ByteArray} {n : Nat} {ret : Option FieldType} (h1 : Cond.methodLink own i y ∈ sw_words) (h2 : Cond.static y ∈ sw_words) (h4 : Cond.initialized own ∈ sw_words) (h : Cond.code y b n ret ∈ sw_words) : GoodIn sw_words (wsS own i y (.code y b n ret :: sw_words)) := by
  intro w hw
  unfold wsS at hw
  rcases List.mem_append.mp hw with hw | hw
  · simp only [List.mem_cons, List.not_mem_nil, or_false] at hw
    rcases hw with rfl | rfl | rfl
    · exact sw_good _ h1
    · exact sw_good _ h2
    · exact sw_good _ h4
  · exact sw_gN h w hw
theorem sw_gT {own : String} {i : Nat} {y : MethodName} {b : ByteArray} {n : Nat} {ret : Option FieldType} (h1 : Cond.methodLink own i y ∈ sw_words) (h2 : Cond.static y ∈ sw_words) (h4 : Cond.initialized y.cls ∈ sw_words) (h : Cond.code y b n ret ∈ sw_words) : GoodIn sw_words (va_wsS own i y (.code y b n ret :: sw_words)) := by
  intro w hw
  unfold va_wsS at hw
  rcases List.mem_append.mp hw with hw | hw
  · simp only [List.mem_cons, List.not_mem_nil, or_false] at hw
    rcases hw with rfl | rfl | rfl
    · exact sw_good _ h1
    · exact sw_good _ h2
    · exact sw_good _ h4
  · exact sw_gN h w hw
