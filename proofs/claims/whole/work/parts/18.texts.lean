/-! TEXTS: length and charAt of the texts that the class holds (the JDK's own code, walked). -/
theorem dJ0_length_8abf5_0 : decode cJ0_length_8abf5 0 = .ok (.aload_n 0, 1) := by decide +kernel
theorem dJ0_length_8abf5_1 : decode cJ0_length_8abf5 1 = .ok (.getfield 9, 3) := by decide +kernel
theorem dJ0_length_8abf5_4 : decode cJ0_length_8abf5 4 = .ok (.arraylength, 1) := by decide +kernel
theorem dJ0_length_8abf5_5 : decode cJ0_length_8abf5 5 = .ok (.aload_n 0, 1) := by decide +kernel
theorem dJ0_length_8abf5_6 : decode cJ0_length_8abf5 6 = .ok (.invokevirtual 335, 3) := by decide +kernel
theorem dJ0_length_8abf5_9 : decode cJ0_length_8abf5 9 = .ok (.ishr, 1) := by decide +kernel
theorem dJ0_length_8abf5_10 : decode cJ0_length_8abf5 10 = .ok (.ireturn, 1) := by decide +kernel
theorem dJ0_charAt_5068e_0 : decode cJ0_charAt_5068e 0 = .ok (.aload_n 0, 1) := by decide +kernel
theorem dJ0_charAt_5068e_1 : decode cJ0_charAt_5068e 1 = .ok (.invokevirtual 492, 3) := by decide +kernel
theorem dJ0_charAt_5068e_4 : decode cJ0_charAt_5068e 4 = .ok (.ifCond .eq 12, 3) := by decide +kernel
theorem dJ0_charAt_5068e_7 : decode cJ0_charAt_5068e 7 = .ok (.aload_n 0, 1) := by decide +kernel
theorem dJ0_charAt_5068e_8 : decode cJ0_charAt_5068e 8 = .ok (.getfield 9, 3) := by decide +kernel
theorem dJ0_charAt_5068e_11 : decode cJ0_charAt_5068e 11 = .ok (.iload_n 1, 1) := by decide +kernel
theorem dJ0_charAt_5068e_12 : decode cJ0_charAt_5068e 12 = .ok (.invokestatic 495, 3) := by decide +kernel
theorem dJ0_charAt_5068e_15 : decode cJ0_charAt_5068e 15 = .ok (.ireturn, 1) := by decide +kernel
theorem dJ0_charAt_5068e_16 : decode cJ0_charAt_5068e 16 = .ok (.aload_n 0, 1) := by decide +kernel
theorem dJ0_charAt_5068e_17 : decode cJ0_charAt_5068e 17 = .ok (.getfield 9, 3) := by decide +kernel
theorem dJ0_charAt_5068e_20 : decode cJ0_charAt_5068e 20 = .ok (.iload_n 1, 1) := by decide +kernel
theorem dJ0_charAt_5068e_21 : decode cJ0_charAt_5068e 21 = .ok (.invokestatic 498, 3) := by decide +kernel
theorem dJ0_charAt_5068e_24 : decode cJ0_charAt_5068e 24 = .ok (.ireturn, 1) := by decide +kernel
theorem dJ0_coder_7d493_0 : decode cJ0_coder_7d493 0 = .ok (.getstatic 38, 3) := by decide +kernel
theorem dJ0_coder_7d493_3 : decode cJ0_coder_7d493 3 = .ok (.ifCond .eq 10, 3) := by decide +kernel
theorem dJ0_coder_7d493_6 : decode cJ0_coder_7d493 6 = .ok (.aload_n 0, 1) := by decide +kernel
theorem dJ0_coder_7d493_7 : decode cJ0_coder_7d493 7 = .ok (.getfield 15, 3) := by decide +kernel
theorem dJ0_coder_7d493_10 : decode cJ0_coder_7d493 10 = .ok (.goto 4, 3) := by decide +kernel
theorem dJ0_coder_7d493_13 : decode cJ0_coder_7d493 13 = .ok (.iconst 1, 1) := by decide +kernel
theorem dJ0_coder_7d493_14 : decode cJ0_coder_7d493 14 = .ok (.ireturn, 1) := by decide +kernel
theorem dJ0_isLatin1_aae02_0 : decode cJ0_isLatin1_aae02 0 = .ok (.getstatic 38, 3) := by decide +kernel
theorem dJ0_isLatin1_aae02_3 : decode cJ0_isLatin1_aae02 3 = .ok (.ifCond .eq 14, 3) := by decide +kernel
theorem dJ0_isLatin1_aae02_6 : decode cJ0_isLatin1_aae02 6 = .ok (.aload_n 0, 1) := by decide +kernel
theorem dJ0_isLatin1_aae02_7 : decode cJ0_isLatin1_aae02 7 = .ok (.getfield 15, 3) := by decide +kernel
theorem dJ0_isLatin1_aae02_10 : decode cJ0_isLatin1_aae02 10 = .ok (.ifCond .ne 7, 3) := by decide +kernel
theorem dJ0_isLatin1_aae02_13 : decode cJ0_isLatin1_aae02 13 = .ok (.iconst 1, 1) := by decide +kernel
theorem dJ0_isLatin1_aae02_14 : decode cJ0_isLatin1_aae02 14 = .ok (.goto 4, 3) := by decide +kernel
theorem dJ0_isLatin1_aae02_17 : decode cJ0_isLatin1_aae02 17 = .ok (.iconst 0, 1) := by decide +kernel
theorem dJ0_isLatin1_aae02_18 : decode cJ0_isLatin1_aae02 18 = .ok (.ireturn, 1) := by decide +kernel
theorem dJ0_checkIndex_df160_0 : decode cJ0_checkIndex_df160 0 = .ok (.iload_n 0, 1) := by decide +kernel
theorem dJ0_checkIndex_df160_1 : decode cJ0_checkIndex_df160 1 = .ok (.iload_n 1, 1) := by decide +kernel
theorem dJ0_checkIndex_df160_2 : decode cJ0_checkIndex_df160 2 = .ok (.getstatic 1053, 3) := by decide +kernel
theorem dJ0_checkIndex_df160_5 : decode cJ0_checkIndex_df160 5 = .ok (.invokestatic 1059, 3) := by decide +kernel
theorem dJ0_checkIndex_df160_8 : decode cJ0_checkIndex_df160 8 = .ok (.pop, 1) := by decide +kernel
theorem dJ0_checkIndex_df160_9 : decode cJ0_checkIndex_df160 9 = .ok (.return_, 1) := by decide +kernel
theorem dJ1_charAt_3b067_0 : decode cJ1_charAt_3b067 0 = .ok (.iload_n 1, 1) := by decide +kernel
theorem dJ1_charAt_3b067_1 : decode cJ1_charAt_3b067 1 = .ok (.aload_n 0, 1) := by decide +kernel
theorem dJ1_charAt_3b067_2 : decode cJ1_charAt_3b067 2 = .ok (.arraylength, 1) := by decide +kernel
theorem dJ1_charAt_3b067_3 : decode cJ1_charAt_3b067 3 = .ok (.invokestatic 9, 3) := by decide +kernel
theorem dJ1_charAt_3b067_6 : decode cJ1_charAt_3b067 6 = .ok (.aload_n 0, 1) := by decide +kernel
theorem dJ1_charAt_3b067_7 : decode cJ1_charAt_3b067 7 = .ok (.iload_n 1, 1) := by decide +kernel
theorem dJ1_charAt_3b067_8 : decode cJ1_charAt_3b067 8 = .ok (.baload, 1) := by decide +kernel
theorem dJ1_charAt_3b067_9 : decode cJ1_charAt_3b067 9 = .ok (.sipush 255, 3) := by decide +kernel
theorem dJ1_charAt_3b067_12 : decode cJ1_charAt_3b067 12 = .ok (.iand, 1) := by decide +kernel
theorem dJ1_charAt_3b067_13 : decode cJ1_charAt_3b067 13 = .ok (.i2c, 1) := by decide +kernel
theorem dJ1_charAt_3b067_14 : decode cJ1_charAt_3b067 14 = .ok (.ireturn, 1) := by decide +kernel
theorem dJ3_checkIndex_8e157_0 : decode cJ3_checkIndex_8e157 0 = .ok (.iload_n 0, 1) := by decide +kernel
theorem dJ3_checkIndex_8e157_1 : decode cJ3_checkIndex_8e157 1 = .ok (.ifCond .lt 8, 3) := by decide +kernel
theorem dJ3_checkIndex_8e157_4 : decode cJ3_checkIndex_8e157 4 = .ok (.iload_n 0, 1) := by decide +kernel
theorem dJ3_checkIndex_8e157_5 : decode cJ3_checkIndex_8e157 5 = .ok (.iload_n 1, 1) := by decide +kernel
theorem dJ3_checkIndex_8e157_6 : decode cJ3_checkIndex_8e157 6 = .ok (.if_icmp .lt 10, 3) := by decide +kernel
theorem dJ3_checkIndex_8e157_9 : decode cJ3_checkIndex_8e157 9 = .ok (.aload_n 2, 1) := by decide +kernel
theorem dJ3_checkIndex_8e157_10 : decode cJ3_checkIndex_8e157 10 = .ok (.iload_n 0, 1) := by decide +kernel
theorem dJ3_checkIndex_8e157_11 : decode cJ3_checkIndex_8e157 11 = .ok (.iload_n 1, 1) := by decide +kernel
theorem dJ3_checkIndex_8e157_12 : decode cJ3_checkIndex_8e157 12 = .ok (.invokestatic 95, 3) := by decide +kernel
theorem dJ3_checkIndex_8e157_15 : decode cJ3_checkIndex_8e157 15 = .ok (.athrow, 1) := by decide +kernel
theorem dJ3_checkIndex_8e157_16 : decode cJ3_checkIndex_8e157 16 = .ok (.iload_n 0, 1) := by decide +kernel
theorem dJ3_checkIndex_8e157_17 : decode cJ3_checkIndex_8e157 17 = .ok (.ireturn, 1) := by decide +kernel
abbrev xs_len : xq_M := (yJ0_length_8abf5, cJ0_length_8abf5, 1, (some .int), 1, 0)
set_option maxRecDepth 100000 in
theorem xs_len_f : xq_mf xs_len := ⟨xq_wr (pl := 335) rfl rfl, by decide +kernel, by decide +kernel, xq_wd_in (pl := 79) (by decide +kernel), fun h => absurd h (by decide), fun _ => ⟨xq_wd_in (pl := 333) (by decide +kernel), xq_wd_in (pl := 334) (by decide +kernel)⟩, fun h => absurd h (by decide), Nat.le_of_ble_eq_true rfl⟩
abbrev xs_cha : xq_M := (yJ0_charAt_5068e, cJ0_charAt_5068e, 2, (some .char), 1, 1)
set_option maxRecDepth 100000 in
theorem xs_cha_f : xq_mf xs_cha := ⟨xq_wr (pl := 345) rfl rfl, by decide +kernel, by decide +kernel, xq_wd_in (pl := 79) (by decide +kernel), fun h => absurd h (by decide), fun _ => ⟨xq_wd_in (pl := 343) (by decide +kernel), xq_wd_in (pl := 344) (by decide +kernel)⟩, fun h => absurd h (by decide), Nat.le_of_ble_eq_true rfl⟩
abbrev xs_cod : xq_M := (yJ0_coder_7d493, cJ0_coder_7d493, 1, (some .byte), 1, 0)
set_option maxRecDepth 100000 in
theorem xs_cod_f : xq_mf xs_cod := ⟨xq_wr (pl := 339) rfl rfl, by decide +kernel, by decide +kernel, xq_wd_in (pl := 79) (by decide +kernel), fun h => absurd h (by decide), fun _ => ⟨xq_wd_in (pl := 337) (by decide +kernel), xq_wd_in (pl := 338) (by decide +kernel)⟩, fun h => absurd h (by decide), Nat.le_of_ble_eq_true rfl⟩
abbrev xs_lat : xq_M := (yJ0_isLatin1_aae02, cJ0_isLatin1_aae02, 1, (some .boolean), 1, 0)
set_option maxRecDepth 100000 in
theorem xs_lat_f : xq_mf xs_lat := ⟨xq_wr (pl := 349) rfl rfl, by decide +kernel, by decide +kernel, xq_wd_in (pl := 79) (by decide +kernel), fun h => absurd h (by decide), fun _ => ⟨xq_wd_in (pl := 347) (by decide +kernel), xq_wd_in (pl := 348) (by decide +kernel)⟩, fun h => absurd h (by decide), Nat.le_of_ble_eq_true rfl⟩
abbrev xs_chk : xq_M := (yJ0_checkIndex_df160, cJ0_checkIndex_df160, 2, none, 0, 2)
set_option maxRecDepth 100000 in
theorem xs_chk_f : xq_mf xs_chk := ⟨xq_wr (pl := 355) rfl rfl, by decide +kernel, by decide +kernel, xq_wd_in (pl := 79) (by decide +kernel), fun _ => xq_wd_in (pl := 354) (by decide +kernel), fun h => absurd h (by decide), fun h => absurd h (by decide), Nat.le_of_ble_eq_true rfl⟩
abbrev xs_ch1 : xq_M := (yJ1_charAt_3b067, cJ1_charAt_3b067, 2, (some .char), 0, 2)
set_option maxRecDepth 100000 in
theorem xs_ch1_f : xq_mf xs_ch1 := ⟨xq_wr (pl := 352) rfl rfl, by decide +kernel, by decide +kernel, xq_wd_in (pl := 80) (by decide +kernel), fun _ => xq_wd_in (pl := 351) (by decide +kernel), fun h => absurd h (by decide), fun h => absurd h (by decide), Nat.le_of_ble_eq_true rfl⟩
abbrev xs_pre : xq_M := (yJ3_checkIndex_8e157, cJ3_checkIndex_8e157, 3, (some .int), 0, 3)
set_option maxRecDepth 100000 in
theorem xs_pre_f : xq_mf xs_pre := ⟨xq_wr (pl := 360) rfl rfl, by decide +kernel, by decide +kernel, xq_wd_in (pl := 81) (by decide +kernel), fun _ => xq_wd_in (pl := 359) (by decide +kernel), fun h => absurd h (by decide), fun h => absurd h (by decide), Nat.le_of_ble_eq_true rfl⟩
theorem xs_w38 : (.fieldLink RJ0 38 RJ0 "COMPACT_STRINGS" "Z" : Jvm.Cond) ∈ xq_ws := xq_wd_in (pl := 340) (by decide +kernel)
theorem xs_w9 : (.fieldLink RJ0 9 RJ0 "value" "[B" : Jvm.Cond) ∈ xq_ws := xq_wd_in (pl := 1505) (by decide +kernel)
theorem xs_w15 : (.fieldLink RJ0 15 RJ0 "coder" "B" : Jvm.Cond) ∈ xq_ws := xq_wd_in (pl := 1506) (by decide +kernel)
theorem xs_w335 : (.methodLink RJ0 335 xs_cod.1 : Jvm.Cond) ∈ xq_ws := xq_wd_in (pl := 336) (by decide +kernel)
theorem xs_w492 : (.methodLink RJ0 492 xs_lat.1 : Jvm.Cond) ∈ xq_ws := xq_wd_in (pl := 346) (by decide +kernel)
theorem xs_w495 : (.methodLink RJ0 495 xs_ch1.1 : Jvm.Cond) ∈ xq_ws := xq_wd_in (pl := 350) (by decide +kernel)
theorem xs_w99 : (.methodLink RJ1 9 xs_chk.1 : Jvm.Cond) ∈ xq_ws := xq_wd_in (pl := 353) (by decide +kernel)
theorem xs_w1053 : (.fieldLink RJ0 1053 RJ3 "SIOOBE_FORMATTER" "Ljava/util/function/BiFunction;" : Jvm.Cond) ∈ xq_ws := xq_wd_in (pl := 356) (by decide +kernel)
theorem xs_w1059 : (.methodLink RJ0 1059 xs_pre.1 : Jvm.Cond) ∈ xq_ws := xq_wd_in (pl := 358) (by decide +kernel)
def xr_Mt (l : Launch) (D : va_G) (cid : Nat → ClassId) (ro : Nat → Option xq_C) (rt adV : Nat → Nat) (base d : Nat) (M : xq_M) (As : List Value) (r : Option Value) : Prop := Met l M.1 (xq_wk M) { frames := d, cells := 0, slots := 0, locals := d * 64 } (fun a U => a = As.toArray ∧ xq_E D cid ro rt adV base U U.heap) (fun _ st o t => o = .returned r ∧ t.heap = st.heap) 0 0 (fun _ => False)
section XR
variable {p : Program} {l : Launch} {e : Env} {R : Room} {s : State} {m : MethodId} {args : Array Value} {below : List Frame} {meth : Method} {c : Code} {Q : State → Prop} {D : va_G} {cid : Nat → ClassId} {rt adV : Nat → Nat} {ro : Nat → Option xq_C} {base nL d : Nat} {bytes : ByteArray} {own : String} {pc : Nat} {H : Heap} {locs : List Loc} {cells slots : Nat} {ls : Array Slot} {rest : List Value}
theorem xr_go {M : xq_M} {As : List Value} {r : Option Value} {st0 : List Value} {a : Array Value} (hr : CallRun p l e R s m args below meth c H locs cells slots 0 0 (F0 m pc ls st0) rest (fun st o t => o = .returned r ∧ t.heap = st.heap) (fun _ => False)) (kk : W p l e R s m args below meth c H locs cells slots Q (F0 m (pc + 3) ls (r.toList ++ rest))) : W p l e R s m args below meth c H locs cells slots Q (F0 m pc ls st0) := by
  intro T hT X
  obtain ⟨v, st₀, t, T', L, h0, X', hL, e1, ⟨hv, hh⟩, st⟩ := hr T hT X
  cases hv
  obtain ⟨t2, a1, b1⟩ := kk T' (by rw [e1, hh, h0]) (Stand.forget X' (fun q h => (hL q h).elim))
  exact ⟨t2, st t2 a1, b1⟩
theorem xr_pre {As : List Value} (hE : xq_E D cid ro rt adV base s s.heap) (hS : va_S (xq_A base) s.heap H locs) : PreS s H (fun a U => a = As.toArray ∧ xq_E D cid ro rt adV base U U.heap) As :=
  ⟨fun a U g mk q => ⟨q.1, xq_E.moved (U := U.calling g mk a) q.2 (State.WarmedH.refl U) (Nat.le_refl _) (fun _ _ _ => rfl)⟩, fun U hU hW => ⟨rfl, by rw [hU]; exact hE.moved hW hS.1 hS.2.1⟩⟩
theorem xr_cb {M : xq_M} {idx : Nat} (hts : ∀ w ∈ xq_ws, w.before args s = true) (hM : xq_mf M) (hlink : (Cond.methodLink own idx M.1) ∈ xq_ws) (h1 : d + 1 ≤ R.frames) (h2 : (d + 1) * 64 ≤ R.locals) : CallB R s args own idx M.1 M.2.1 M.2.2.1 M.2.2.2.1 (xq_wk M) { frames := d, cells := 0, slots := 0, locals := d * 64 } 0 0 M.2.2.2.2.2 :=
  callB_of _ hts (xq_wk_good hM) rfl rfl rfl (hts _ hM.2.2.2.1) (hts _ hlink) hM.2.2.1 ⟨h1, by have := hM.2.2.2.2.2.2.2; show 8 + _ + d * 64 ≤ _; omega⟩
theorem xr_callS {M : xq_M} {As : List Value} {r : Option Value} {idx : Nat} (hx : p.tables.exec = Jvm.exec) (hb : c.code = bytes) (hml : c.maxLocals = nL) (hown : s.vm.findClass own = some m.cls) (hts : ∀ w ∈ xq_ws, w.before args s = true) (hE : xq_E D cid ro rt adV base s s.heap) (hS : va_S (xq_A base) s.heap H locs) (hM : xq_mf M) (hk : M.2.2.2.2.1 = 0) (hmet : xr_Mt l D cid ro rt adV base d M As r) (hlink : (Cond.methodLink own idx M.1) ∈ xq_ws) (h1 : d + 1 ≤ R.frames) (h2 : (d + 1) * 64 ≤ R.locals) (hn : As.length = M.2.2.2.2.2) (hls : ls.size = nL) (hsum : (rest.map fun v => v.category).sum ≤ 8) (hc : cells ≤ R.cells ∧ slots ≤ R.slots) (hdg : decode bytes pc = .ok (.invokestatic idx, 3)) (kk : W p l e R s m args below meth c H locs cells slots Q (F0 m (pc + 3) ls (r.toList ++ rest))) : W p l e R s m args below meth c H locs cells slots Q (F0 m pc ls (As.reverse ++ rest)) :=
  xr_go (M := M) (As := As) (a := args) (W.runS (As := As) (Ts := xq_ws) ⟨hx, hb, hml, hown, hts⟩ hmet ⟨xr_cb hts hM hlink h1 h2, hts _ (hM.2.2.2.2.1 hk)⟩ (xr_pre hE hS) rfl hn hls rfl (lv_room hsum) hdg hc) kk
theorem xr_callV {M : xq_M} {As : List Value} {r : Option Value} {idx b : Nat} (hx : p.tables.exec = Jvm.exec) (hb : c.code = bytes) (hml : c.maxLocals = nL) (hown : s.vm.findClass own = some m.cls) (hts : ∀ w ∈ xq_ws, w.before args s = true) (hE : xq_E D cid ro rt adV base s s.heap) (hS : va_S (xq_A base) s.heap H locs) (hM : xq_mf M) (hk : M.2.2.2.2.1 = 1) (hmet : xr_Mt l D cid ro rt adV base d M (.ref b :: As) r) (hlink : (Cond.methodLink own idx M.1) ∈ xq_ws) (hrec : ∃ cellB : Cell, H[b]? = some cellB ∧ cellB.vm.isStatics = false ∧ s.vm.findClass M.1.cls = some cellB.cls) (h1 : d + 1 ≤ R.frames) (h2 : (d + 1) * 64 ≤ R.locals) (hn : As.length = M.2.2.2.2.2) (hls : ls.size = nL) (hsum : (rest.map fun v => v.category).sum ≤ 8) (hc : cells ≤ R.cells ∧ slots ≤ R.slots) (hdg : decode bytes pc = .ok (.invokevirtual idx, 3)) (kk : W p l e R s m args below meth c H locs cells slots Q (F0 m (pc + 3) ls (r.toList ++ rest))) : W p l e R s m args below meth c H locs cells slots Q (F0 m pc ls (As.reverse ++ .ref b :: rest)) :=
  xr_go (M := M) (As := As) (a := args) (W.runV (C := M.1.cls) (As := As) (Ts := xq_ws) ⟨hx, hb, hml, hown, hts⟩ hmet ⟨xr_cb hts hM hlink h1 h2, hts _ (hM.2.2.2.2.2.1 hk).1, hts _ (hM.2.2.2.2.2.1 hk).2⟩ ⟨(xr_pre (As := .ref b :: As) hE hS).1, hrec, (xr_pre (As := .ref b :: As) hE hS).2⟩ rfl hn hls rfl (lv_room hsum) hdg hc) kk
end XR
section XT
variable {l : Launch} {D : va_G} {cid : Nat → ClassId} {ro : Nat → Option xq_C} {rt adV : Nat → Nat} {base : Nat}
theorem xs_cod_m {i : Nat} (hi : i < 13) : xr_Mt l D cid ro rt adV base 1 xs_cod [.ref (rt (3 + i))] (some (.int 0)) := by
  refine Met.ofW (cc := cJ0_coder_7d493) (maxL := 1) (ret := some .byte) xs_cod_f.2.1 rfl ?_
  intro p e s m args below meth c s₁ B hml hv
  obtain ⟨rfl, hE⟩ := hv
  have hx := B.exec
  have hb := B.bytes
  have hr := B.returns
  have hlk := B.notSynchronized
  have hts : ∀ w ∈ xq_ws, w.before _ s = true := fun w hw => atoms_spec (ws := xq_wk xs_cod) B.pre w (List.mem_cons_of_mem _ hw)
  have hown : s.vm.findClass RJ0 = some m.cls := findClass_of_methodNamed B.named
  have hS : va_S (xq_A base) s.heap s.heap [] := va_S.rf
  have hl := lv_entry ([.ref (rt (3 + i))]) (n := 1) (Nat.le_of_ble_eq_true rfl)
  rw [lg_entry_eq]
  generalize (lg_sl ([.ref (rt (3 + i))]) ++ List.replicate (1 - (lg_sl ([.ref (rt (3 + i))])).length) Slot.unset).toArray = ls at hl ⊢
  refine va_gets hx hb hE.2.2.2.2.2.2.2.2.2.2.2.1 hS hown (hts _ xs_w38) (fun x h => h) dJ0_coder_7d493_0 ?_
  refine lv_if_eq (tgt := 13) hx hb dJ0_coder_7d493_3 (by decide) (fun q => absurd q (by decide)) (fun _ => ?_)
  refine lv_aload_n hx hb dJ0_coder_7d493_6 rfl (lv_at hl 0 rfl) ?_
  refine vk_getf hx hb (hE.2.2.2.2.2.1.1 i hi).2.1 hS hown (hts _ xs_w15) (fun x h => h) dJ0_coder_7d493_7 ?_
  refine lv_goto (tgt := 14) hx hb dJ0_coder_7d493_10 (by decide) ?_
  exact W.zret hx hb hr rfl (fun t ht _ => ⟨rfl, ht⟩) (fun q h => by cases h) dJ0_coder_7d493_14 hlk
theorem xs_lat_m {i : Nat} (hi : i < 13) : xr_Mt l D cid ro rt adV base 1 xs_lat [.ref (rt (3 + i))] (some (.int 1)) := by
  refine Met.ofW (cc := cJ0_isLatin1_aae02) (maxL := 1) (ret := some .boolean) xs_lat_f.2.1 rfl ?_
  intro p e s m args below meth c s₁ B hml hv
  obtain ⟨rfl, hE⟩ := hv
  have hx := B.exec
  have hb := B.bytes
  have hr := B.returns
  have hlk := B.notSynchronized
  have hts : ∀ w ∈ xq_ws, w.before _ s = true := fun w hw => atoms_spec (ws := xq_wk xs_lat) B.pre w (List.mem_cons_of_mem _ hw)
  have hown : s.vm.findClass RJ0 = some m.cls := findClass_of_methodNamed B.named
  have hS : va_S (xq_A base) s.heap s.heap [] := va_S.rf
  have hl := lv_entry ([.ref (rt (3 + i))]) (n := 1) (Nat.le_of_ble_eq_true rfl)
  rw [lg_entry_eq]
  generalize (lg_sl ([.ref (rt (3 + i))]) ++ List.replicate (1 - (lg_sl ([.ref (rt (3 + i))])).length) Slot.unset).toArray = ls at hl ⊢
  refine va_gets hx hb hE.2.2.2.2.2.2.2.2.2.2.2.1 hS hown (hts _ xs_w38) (fun x h => h) dJ0_isLatin1_aae02_0 ?_
  refine lv_if_eq (tgt := 17) hx hb dJ0_isLatin1_aae02_3 (by decide) (fun q => absurd q (by decide)) (fun _ => ?_)
  refine lv_aload_n hx hb dJ0_isLatin1_aae02_6 rfl (lv_at hl 0 rfl) ?_
  refine vk_getf hx hb (hE.2.2.2.2.2.1.1 i hi).2.1 hS hown (hts _ xs_w15) (fun x h => h) dJ0_isLatin1_aae02_7 ?_
  refine lv_if_ne (tgt := 17) hx hb dJ0_isLatin1_aae02_10 (by decide) (fun q => absurd rfl q) (fun _ => ?_)
  refine lv_iconst (v := 1) hx hb dJ0_isLatin1_aae02_13 (by decide) ?_
  refine lv_goto (tgt := 18) hx hb dJ0_isLatin1_aae02_14 (by decide) ?_
  exact W.zret hx hb hr rfl (fun t ht _ => ⟨rfl, ht⟩) (fun q h => by cases h) dJ0_isLatin1_aae02_18 hlk
theorem xs_pre_m {x n : Int32} {v : Value} (hv : v = .null ∨ ∃ t, v = .ref t) (h0 : ¬ x < 0) (h1 : x < n) : xr_Mt l D cid ro rt adV base 1 xs_pre [.int x, .int n, v] (some (.int x)) := by
  refine Met.ofW (cc := cJ3_checkIndex_8e157) (maxL := 3) (ret := some .int) xs_pre_f.2.1 rfl ?_
  intro p e s m args below meth c s₁ B hml hv2
  obtain ⟨rfl, hE⟩ := hv2
  have hx := B.exec
  have hb := B.bytes
  have hr := B.returns
  have hlk := B.notSynchronized
  have key : ∀ ls : Array Slot, lv_has ls 3 [(0, .int x), (1, .int n)] → W p l e (headSpec (xq_wk xs_pre) { frames := 1, cells := 0, slots := 0, locals := 1 * 64 }).room s m ([.int x, .int n, v] : List Value).toArray below meth c s.heap [] 0 0 (MQ below (fun _ st o t => o = .returned (some (.int x)) ∧ t.heap = st.heap) ([.int x, .int n, v] : List Value).toArray s 0 0 (fun _ => False)) (F0 m 0 ls []) := by
    intro ls hl
    refine lv_iload_n hx hb dJ3_checkIndex_8e157_0 rfl (lv_at hl 0 rfl) ?_
    refine lv_if_lt (tgt := 9) hx hb dJ3_checkIndex_8e157_1 (by decide) (fun q => absurd q h0) (fun _ => ?_)
    refine lv_iload_n hx hb dJ3_checkIndex_8e157_4 rfl (lv_at hl 0 rfl) ?_
    refine lv_iload_n hx hb dJ3_checkIndex_8e157_5 rfl (lv_at hl 1 rfl) ?_
    refine lv_icmp_lt (tgt := 16) hx hb dJ3_checkIndex_8e157_6 (by decide) (fun _ => ?_) (fun q => absurd h1 q)
    refine lv_iload_n hx hb dJ3_checkIndex_8e157_16 rfl (lv_at hl 0 rfl) ?_
    exact W.iret hx hb hr (fun t ht _ => ⟨rfl, ht⟩) (fun q h => by cases h) dJ3_checkIndex_8e157_17 hlk
  rw [lg_entry_eq]
  rcases hv with rfl | ⟨t, rfl⟩
  · have hl := lv_entry ([.int x, .int n, .null]) (n := 3) (Nat.le_of_ble_eq_true rfl)
    exact key _ (lv_sub hl [0, 1] rfl)
  · have hl := lv_entry ([.int x, .int n, .ref t]) (n := 3) (Nat.le_of_ble_eq_true rfl)
    exact key _ (lv_sub hl [0, 1] rfl)
theorem xs_chk_m {x n : Int32} (h0 : ¬ x < 0) (h1 : x < n) : xr_Mt l D cid ro rt adV base 2 xs_chk [.int x, .int n] none := by
  refine Met.ofW (cc := cJ0_checkIndex_df160) (maxL := 2) (ret := none) xs_chk_f.2.1 rfl ?_
  intro p e s m args below meth c s₁ B hml hv
  obtain ⟨rfl, hE⟩ := hv
  have hx := B.exec
  have hb := B.bytes
  have hr := B.returns
  have hlk := B.notSynchronized
  have hts : ∀ w ∈ xq_ws, w.before _ s = true := fun w hw => atoms_spec (ws := xq_wk xs_chk) B.pre w (List.mem_cons_of_mem _ hw)
  have hown : s.vm.findClass RJ0 = some m.cls := findClass_of_methodNamed B.named
  have hS : va_S (xq_A base) s.heap s.heap [] := va_S.rf
  have hl := lv_entry ([.int x, .int n]) (n := 2) (Nat.le_of_ble_eq_true rfl)
  rw [lg_entry_eq]
  generalize (lg_sl ([.int x, .int n]) ++ List.replicate (2 - (lg_sl ([.int x, .int n])).length) Slot.unset).toArray = ls at hl ⊢
  have key : ∀ v : Value, (v = .null ∨ ∃ t, v = .ref t) → va_Z "jdk/internal/util/Preconditions" "SIOOBE_FORMATTER" "Ljava/util/function/BiFunction;" v (xq_A base) s s.heap → W p l e (headSpec (xq_wk xs_chk) { frames := 2, cells := 0, slots := 0, locals := 2 * 64 }).room s m ([.int x, .int n] : List Value).toArray below meth c s.heap [] 0 0 (MQ below (fun _ st o t => o = .returned none ∧ t.heap = st.heap) ([.int x, .int n] : List Value).toArray s 0 0 (fun _ => False)) (F0 m 0 ls []) := by
    intro v hv hZ
    refine lv_iload_n hx hb dJ0_checkIndex_df160_0 rfl (lv_at hl 0 rfl) ?_
    refine lv_iload_n hx hb dJ0_checkIndex_df160_1 rfl (lv_at hl 1 rfl) ?_
    refine va_gets hx hb hZ hS hown (hts _ xs_w1053) (fun x h => h) dJ0_checkIndex_df160_2 ?_
    refine xr_callS (As := [.int x, .int n, v]) (rest := []) (d := 1) (M := xs_pre) hx hb hml hown hts hE hS xs_pre_f rfl (xs_pre_m hv h0 h1) xs_w1059 (Nat.le_refl _) (Nat.le_refl _) rfl hl.1 (by decide) ⟨Nat.le_refl _, Nat.le_refl _⟩ dJ0_checkIndex_df160_5 ?_
    refine lv_pop hx hb dJ0_checkIndex_df160_8 rfl ?_
    exact W.vret hx hb hr (fun t ht _ => ⟨rfl, ht⟩) (fun q h => by cases h) dJ0_checkIndex_df160_9 hlk
  rcases hE.2.2.2.2.2.2.2.2.2.2.2.2 with hZ | ⟨t, hZ⟩
  · exact key .null (Or.inl rfl) hZ
  · exact key (.ref t) (Or.inr ⟨t, rfl⟩) hZ
theorem xs_lt {x : Int32} {n : Nat} (h : xq_in x n = true) (hn : n < 2 ^ 31) : ¬ x < 0 ∧ x < Int32.ofNat n := by
  obtain ⟨j, hj, rfl⟩ := vp_in_of (xq_in_vp h) hn
  exact ⟨nI_pos (by omega), nI_lt hj hn⟩
theorem xs_len_ok : ∀ i, i < 13 → xq_len.getD i 0 < 2 ^ 31 ∧ (Int32.ofNat (xq_len.getD i 0) >>> ((0 : Int32) &&& 31)) = Int32.ofNat (xq_len.getD i 0) := by decide +kernel
theorem xs_ch1_m {i : Nat} {x : Int32} (hi : i < 13) (h : xq_in x (xq_len.getD i 0) = true) : xr_Mt l D cid ro rt adV base 3 xs_ch1 [.ref (adV i), .int x] (some (.int ((xq_byt.getD i []).getD x.toNatClampNeg 0 &&& 255))) := by
  refine Met.ofW (cc := cJ1_charAt_3b067) (maxL := 2) (ret := some .char) xs_ch1_f.2.1 rfl ?_
  intro p e s m args below meth c s₁ B hml hv
  obtain ⟨rfl, hE⟩ := hv
  have hx := B.exec
  have hb := B.bytes
  have hr := B.returns
  have hlk := B.notSynchronized
  have hts : ∀ w ∈ xq_ws, w.before _ s = true := fun w hw => atoms_spec (ws := xq_wk xs_ch1) B.pre w (List.mem_cons_of_mem _ hw)
  have hown : s.vm.findClass RJ1 = some m.cls := findClass_of_methodNamed B.named
  have hS : va_S (xq_A base) s.heap s.heap [] := va_S.rf
  have hl := lv_entry ([.ref (adV i), .int x]) (n := 2) (Nat.le_of_ble_eq_true rfl)
  rw [lg_entry_eq]
  generalize (lg_sl ([.ref (adV i), .int x]) ++ List.replicate (2 - (lg_sl ([.ref (adV i), .int x])).length) Slot.unset).toArray = ls at hl ⊢
  obtain ⟨cell, t1, t2, t3, t4, t5, t6, t7⟩ := (hE.2.2.2.2.2.1.1 i hi).2.2.2
  obtain ⟨g0, g1⟩ := xs_lt h (xs_len_ok i hi).1
  have hin := xq_in_vp h
  have hlt : x.toNatClampNeg < xq_len.getD i 0 := Nat.not_le.mp fun q => hin (Or.inr q)
  refine lv_iload_n hx hb dJ1_charAt_3b067_0 rfl (lv_at hl 1 rfl) ?_
  refine lv_aload_n hx hb dJ1_charAt_3b067_1 rfl (lv_at hl 0 rfl) ?_
  refine W.alen (n := Int32.ofNat (xq_len.getD i 0)) hx hb t1 t2 t5 rfl rfl dJ1_charAt_3b067_2 ?_
  refine xr_callS (As := [.int x, .int (Int32.ofNat (xq_len.getD i 0))]) (rest := []) (d := 2) (M := xs_chk) hx hb hml hown hts hE hS xs_chk_f rfl (xs_chk_m g0 g1) xs_w99 (Nat.le_refl _) (Nat.le_refl _) rfl hl.1 (by decide) ⟨Nat.le_refl _, Nat.le_refl _⟩ dJ1_charAt_3b067_3 ?_
  refine lv_aload_n hx hb dJ1_charAt_3b067_6 rfl (lv_at hl 0 rfl) ?_
  refine lv_iload_n hx hb dJ1_charAt_3b067_7 rfl (lv_at hl 1 rfl) ?_
  refine W.bald (v := .int ((xq_byt.getD i []).getD x.toNatClampNeg 0)) hx hb t1 t2 t3 (fun q => by rcases q with q | q; exact g0 q; omega) (t6 _ hlt) rfl rfl dJ1_charAt_3b067_8 ?_
  refine lv_sipush (v := 255) hx hb dJ1_charAt_3b067_9 (by decide) ?_
  refine lv_iand hx hb dJ1_charAt_3b067_12 ?_
  refine lv_i2c hx hb dJ1_charAt_3b067_13 (sc_c2 _) ?_
  exact W.zret hx hb hr (sc_nar _) (fun t ht _ => ⟨rfl, ht⟩) (fun q h => by cases h) dJ1_charAt_3b067_14 hlk
end XT
/-- the texts' own methods, in the small machine -/
def xk_pr : xq_F := fun k as h => bif Nat.beq k 219 then (match as with
    | [.ref r] => bif Nat.blt 2 r && Nat.blt r 16 then some (some (.int (Int32.ofNat (xq_len.getD (r - 3) 0))), h) else none
    | _ => none) else bif Nat.beq k 220 then (match as with
    | [.ref r, .int i] => bif Nat.blt 2 r && (Nat.blt r 16 && xq_in i (xq_len.getD (r - 3) 0)) then some (some (.int ((xq_byt.getD (r - 3) []).getD i.toNatClampNeg 0 &&& 255)), h) else none
    | _ => none) else none
theorem xk_pr_le (k : Nat) (as : List Value) (h : xq_H) (r : Option Value) (h' : xq_H) (e : xk_pr k as h = some (r, h')) : xq_le h h' := by
  have : h' = h := by
    unfold xk_pr at e
    cases h1 : Nat.beq k 219 with
    | true =>
      rw [h1, cond_true] at e
      split at e
      · rename_i r0
        cases h2 : (Nat.blt 2 r0 && Nat.blt r0 16) with
        | true => rw [h2] at e; cases e; rfl
        | false => rw [h2] at e; cases e
      · cases e
    | false =>
      rw [h1, cond_false] at e
      cases h3 : Nat.beq k 220 with
      | true =>
        rw [h3, cond_true] at e
        split at e
        · rename_i r0 i
          cases h2 : (Nat.blt 2 r0 && (Nat.blt r0 16 && xq_in i (xq_len.getD (r0 - 3) 0))) with
          | true => rw [h2] at e; cases e; rfl
          | false => rw [h2] at e; cases e
        · cases e
      | false => rw [h3] at e; cases e
  rw [this]
  exact xq_le_rf h
