/-! THE CLASSES: their words by place, their default fields -/
theorem xq_wk0 : ∀ k, k < 7 → xq_wd (([295, 297, 299, 301, 303, 305, 307] : List Nat).getD k 0) (u_lay RX0 TX0 k) = true := by decide +kernel
theorem xq_win0 : ∀ w ∈ u_ws RX0 TX0 7, w ∈ xq_ws := fun w hw => by
  obtain ⟨k, hk, rfl⟩ := List.mem_map.mp hw
  exact xq_wd_in (xq_wk0 k (List.mem_range.mp hk))
theorem xq_wk1 : ∀ k, k < 3 → xq_wd (([147, 149, 151] : List Nat).getD k 0) (u_lay RX1 TX1 k) = true := by decide +kernel
theorem xq_win1 : ∀ w ∈ u_ws RX1 TX1 3, w ∈ xq_ws := fun w hw => by
  obtain ⟨k, hk, rfl⟩ := List.mem_map.mp hw
  exact xq_wd_in (xq_wk1 k (List.mem_range.mp hk))
theorem xq_wk2 : ∀ k, k < 8 → xq_wd (([114, 116, 118, 120, 122, 124, 126, 128] : List Nat).getD k 0) (u_lay RX2 TX2 k) = true := by decide +kernel
theorem xq_win2 : ∀ w ∈ u_ws RX2 TX2 8, w ∈ xq_ws := fun w hw => by
  obtain ⟨k, hk, rfl⟩ := List.mem_map.mp hw
  exact xq_wd_in (xq_wk2 k (List.mem_range.mp hk))
theorem xq_wk3 : ∀ k, k < 15 → xq_wd (([204, 206, 208, 210, 212, 214, 216, 218, 220, 222, 224, 226, 228, 230, 232] : List Nat).getD k 0) (u_lay RX3 TX3 k) = true := by decide +kernel
theorem xq_win3 : ∀ w ∈ u_ws RX3 TX3 15, w ∈ xq_ws := fun w hw => by
  obtain ⟨k, hk, rfl⟩ := List.mem_map.mp hw
  exact xq_wd_in (xq_wk3 k (List.mem_range.mp hk))
theorem xq_wk4 : ∀ k, k < 9 → xq_wd (([252, 254, 256, 258, 260, 262, 264, 266, 268] : List Nat).getD k 0) (u_lay RX4 TX4 k) = true := by decide +kernel
theorem xq_win4 : ∀ w ∈ u_ws RX4 TX4 9, w ∈ xq_ws := fun w hw => by
  obtain ⟨k, hk, rfl⟩ := List.mem_map.mp hw
  exact xq_wd_in (xq_wk4 k (List.mem_range.mp hk))
theorem xq_wk5 : ∀ k, k < 3 → xq_wd (([324, 326, 328] : List Nat).getD k 0) (u_lay RX5 TX5 k) = true := by decide +kernel
theorem xq_win5 : ∀ w ∈ u_ws RX5 TX5 3, w ∈ xq_ws := fun w hw => by
  obtain ⟨k, hk, rfl⟩ := List.mem_map.mp hw
  exact xq_wd_in (xq_wk5 k (List.mem_range.mp hk))
theorem xq_wk6 : ∀ k, k < 6 → xq_wd (([166, 168, 170, 172, 174, 176] : List Nat).getD k 0) (u_lay RX6 TX6 k) = true := by decide +kernel
theorem xq_win6 : ∀ w ∈ u_ws RX6 TX6 6, w ∈ xq_ws := fun w hw => by
  obtain ⟨k, hk, rfl⟩ := List.mem_map.mp hw
  exact xq_wd_in (xq_wk6 k (List.mem_range.mp hk))
theorem xq_wk7 : ∀ k, k < 3 → xq_wd (([498, 500, 502] : List Nat).getD k 0) (u_lay RX7 TX7 k) = true := by decide +kernel
theorem xq_win7 : ∀ w ∈ u_ws RX7 TX7 3, w ∈ xq_ws := fun w hw => by
  obtain ⟨k, hk, rfl⟩ := List.mem_map.mp hw
  exact xq_wd_in (xq_wk7 k (List.mem_range.mp hk))
theorem xq_wk8 : ∀ k, k < 17 → xq_wd (([527, 529, 531, 533, 535, 537, 539, 541, 543, 545, 547, 549, 551, 553, 555, 557, 559] : List Nat).getD k 0) (u_lay RX8 TX8 k) = true := by decide +kernel
theorem xq_win8 : ∀ w ∈ u_ws RX8 TX8 17, w ∈ xq_ws := fun w hw => by
  obtain ⟨k, hk, rfl⟩ := List.mem_map.mp hw
  exact xq_wd_in (xq_wk8 k (List.mem_range.mp hk))
theorem xq_wk9 : ∀ k, k < 55 → xq_wd (([1149, 1151, 1153, 1155, 1157, 1159, 1161, 1163, 1165, 1167, 1169, 1171, 1173, 1175, 1177, 1179, 1181, 1183, 1185, 1187, 1189, 1191, 1193, 1195, 1197, 1199, 1201, 1203, 1205, 1207, 1209, 1211, 1213, 1215, 1217, 1219, 1221, 1223, 1225, 1227, 1229, 1231, 1233, 1235, 1237, 1239, 1241, 1243, 1245, 1247, 1249, 1251, 1253, 1255, 1257] : List Nat).getD k 0) (u_lay RX9 TX9 k) = true := by decide +kernel
theorem xq_win9 : ∀ w ∈ u_ws RX9 TX9 55, w ∈ xq_ws := fun w hw => by
  obtain ⟨k, hk, rfl⟩ := List.mem_map.mp hw
  exact xq_wd_in (xq_wk9 k (List.mem_range.mp hk))
def xq_ty (ci : Nat) : Nat → FieldType := match ci with
  | 0 => tyX0
  | 1 => tyX1
  | 2 => tyX2
  | 3 => tyX3
  | 4 => tyX4
  | 5 => tyX5
  | 6 => tyX6
  | 7 => tyX7
  | 8 => tyX8
  | _ => tyX9
def xq_df (ci : Nat) : List Value := match ci with
  | 0 => [.null, .null, .null, .int 0, .int 0, .int 0, .int 0]
  | 1 => [.null, .null, .null]
  | 2 => [.null, .null, .null, .int 0, .null, .null, .null, .int 0]
  | 3 => [.int 0, .int 0, .null, .null, .null, .null, .null, .null, .null, .null, .null, .int 0, .null, .int 0, .int 0]
  | 4 => [.null, .int 0, .int 0, .null, .int 0, .int 0, .int 0, .int 0, .int 0]
  | 5 => [.null, .int 0, .int 0]
  | 6 => [.null, .null, .null, .null, .null, .int 0]
  | 7 => [.null, .int 0, .int 0]
  | 8 => [.null, .null, .null, .null, .null, .null, .null, .null, .null, .null, .null, .null, .null, .int 0, .int 0, .int 0, .int 0]
  | _ => [.null, .null, .int 0, .null, .int 0, .null, .null, .null, .null, .int 0, .null, .null, .null, .null, .int 0, .int 0, .int 0, .null, .null, .int 0, .int 0, .int 0, .int 0, .null, .null, .null, .int 0, .int 0, .int 0, .null, .int 0, .int 0, .null, .null, .null, .int 0, .int 0, .null, .null, .null, .null, .int 0, .int 0, .int 0, .null, .null, .null, .int 0, .int 0, .int 0, .int 0, .null, .null, .null, .null]
def xq_cf (ci : Nat) (q : vw_C) : Prop := (∀ w ∈ u_ws q.1 q.2.1 q.2.2, w ∈ xq_ws) ∧ (∀ k, k < q.2.2 → parseFieldDescriptor (q.2.1 k).2.2.1 = some (xq_ty ci k)) ∧ (∀ a, a < q.2.2 → ∀ b, b < q.2.2 → a ≠ b → (q.2.1 a).2.1 ≠ (q.2.1 b).2.1) ∧ (∀ j, j < q.2.2 → defaultValue (xq_ty ci j) = vp_V (xq_df ci) j) ∧ (xq_df ci).length = q.2.2 ∧ ∀ v ∈ xq_df ci, v = .null ∨ v = .int 0
theorem xq_cf_of {ci : Nat} {q : vw_C} (h : vwCl[ci]? = some q) : xq_cf ci q := by
  match ci, h with
  | 0, h => cases h; exact ⟨xq_win0, tyX0_ok, nmX0, by decide +kernel, by decide +kernel, by decide +kernel⟩
  | 1, h => cases h; exact ⟨xq_win1, tyX1_ok, nmX1, by decide +kernel, by decide +kernel, by decide +kernel⟩
  | 2, h => cases h; exact ⟨xq_win2, tyX2_ok, nmX2, by decide +kernel, by decide +kernel, by decide +kernel⟩
  | 3, h => cases h; exact ⟨xq_win3, tyX3_ok, nmX3, by decide +kernel, by decide +kernel, by decide +kernel⟩
  | 4, h => cases h; exact ⟨xq_win4, tyX4_ok, nmX4, by decide +kernel, by decide +kernel, by decide +kernel⟩
  | 5, h => cases h; exact ⟨xq_win5, tyX5_ok, nmX5, by decide +kernel, by decide +kernel, by decide +kernel⟩
  | 6, h => cases h; exact ⟨xq_win6, tyX6_ok, nmX6, by decide +kernel, by decide +kernel, by decide +kernel⟩
  | 7, h => cases h; exact ⟨xq_win7, tyX7_ok, nmX7, by decide +kernel, by decide +kernel, by decide +kernel⟩
  | 8, h => cases h; exact ⟨xq_win8, tyX8_ok, nmX8, by decide +kernel, by decide +kernel, by decide +kernel⟩
  | 9, h => cases h; exact ⟨xq_win9, tyX9_ok, nmX9, by decide +kernel, by decide +kernel, by decide +kernel⟩
  | k + 10, h => simp [vwCl] at h
theorem xq_df_v {am : Nat → Nat} {ci : Nat} {q : vw_C} (h : vwCl[ci]? = some q) : (xq_df ci).map (xq_v am) = xq_df ci := by
  have h5 := (xq_cf_of h).2.2.2.2.2
  have : ∀ l : List Value, (∀ v ∈ l, v = .null ∨ v = .int 0) → l.map (xq_v am) = l := by
    intro l
    induction l with
    | nil => intro _; rfl
    | cons v t ih =>
      intro hv
      rw [List.map_cons, ih (fun w hw => hv w (List.mem_cons_of_mem _ hw))]
      rcases hv v List.mem_cons_self with rfl | rfl <;> rfl
  exact this _ h5
section XQ7
variable {p : Program} {l : Launch} {e : Env} {R : Room} {s : State} {m : MethodId} {args : Array Value} {below : List Frame} {meth : Method} {c : Code} {Q : State → Prop} {D : va_G} {cid : Nat → ClassId} {rt adV : Nat → Nat} {ro : Nat → Option xq_C} {base l0 z0 nL d : Nat} {bytes : ByteArray} {own : String} {E : Prop} {pc : Nat} {L : List (Option Value)} {st : List Value} {h : xq_H}
theorem xq_s_get {ci k idx : Nat} {q : vw_C} (hB : xq_B p R s m args c bytes own nL d D cid ro rt adV base l0) (hc : vwCl[ci]? = some q) (hk : k < q.2.2) (hTk : (q.2.1 k).1 = q.1) (hlink : (Cond.fieldLink own idx q.1 (q.2.1 k).2.1 (q.2.1 k).2.2.1) ∈ xq_ws) (hdg : decode bytes pc = .ok (.getfield idx, 3)) (hst : xq_T (fun pc' L' st' h' => (h'.length ≤ l0 + R.cells ∧ xq_z h' ≤ z0 + R.slots) ∧ xq_G p l e R s m args below meth c Q D cid rt base l0 z0 nL pc' L' st' h') E (xq_get ci k pc L st h)) : E ∨ xq_G p l e R s m args below meth c Q D cid rt base l0 z0 nL pc L st h := by
  obtain ⟨hx, hb, hml, hown, hts, hE, hsz, hfr, hlo⟩ := hB
  obtain ⟨C, T, N⟩ := q
  unfold xq_get at hst
  split at hst
  · rename_i r t
    cases hr : Nat.blt r 64 with
    | true => rw [hr] at hst; exact hst.elim
    | false =>
      rw [hr, cond_false] at hst
      split at hst
      · rename_i ci' fs he
        cases hk0 : Nat.beq ci ci' with
        | false => rw [hk0] at hst; exact hst.elim
        | true =>
          rw [hk0, cond_true] at hst
          have hkk : ci = ci' := Nat.eq_of_beq_eq_true hk0
          subst hkk
          split at hst
          · rename_i v hv
            obtain ⟨hz, kk⟩ := hst
            refine Or.inr fun H locs ls cells slots hP hD hS hL e1 e2 => ?_
            exact va_get hx hb hts (xq_cf_of hc).1 hown hE.1 hP _ (xq_w_one (xq_blt_f hr) he) hc k hk (hts _ hlink) (fun x hx => by rw [hTk] at hx; exact hx) (by rw [List.getElem?_map, hv]; rfl) hdg (kk H locs ls cells slots hP hD hS hL e1 e2)
          · exact hst.elim
      · exact hst.elim
  · exact hst.elim
/-- the kind of a field's type: 0 int, 1 boolean, 2 a reference -/
def xq_tk : FieldType → Nat
  | .int => 0
  | .boolean => 1
  | .object _ => 2
  | .array _ => 2
  | _ => 9
theorem xq_fit_ok {am : Nat → Nat} {ty : FieldType} {v : Value} (h : xq_fit (xq_tk ty) v = true) : narrow ty (xq_v am v) = xq_v am v ∧ fits ty (xq_v am v) = true := by
  cases ty <;> cases v <;> simp [xq_fit, xq_tk] at h <;> first
    | exact ⟨rfl, rfl⟩
    | (rcases h with h | h <;> (subst h; exact ⟨rfl, rfl⟩))
theorem xq_s_put {ci k idx : Nat} {q : vw_C} (hB : xq_B p R s m args c bytes own nL d D cid ro rt adV base l0) (hc : vwCl[ci]? = some q) (hk : k < q.2.2) (hTk : (q.2.1 k).1 = q.1) (hlink : (Cond.fieldLink own idx q.1 (q.2.1 k).2.1 (q.2.1 k).2.2.1) ∈ xq_ws) (hfi : (q.2.1 k).2.2.2 = true → meth.name = "<init>" ∧ q.1 = own) (hdg : decode bytes pc = .ok (.putfield idx, 3)) (hst : xq_T (fun pc' L' st' h' => (h'.length ≤ l0 + R.cells ∧ xq_z h' ≤ z0 + R.slots) ∧ xq_G p l e R s m args below meth c Q D cid rt base l0 z0 nL pc' L' st' h') E (xq_put ci k (xq_tk (xq_ty ci k)) pc L st h)) : E ∨ xq_G p l e R s m args below meth c Q D cid rt base l0 z0 nL pc L st h := by
  obtain ⟨hx, hb, hml, hown, hts, hE, hsz, hfr, hlo⟩ := hB
  obtain ⟨C, T, N⟩ := q
  unfold xq_put at hst
  split at hst
  · rename_i v r t
    cases hr : Nat.blt r 64 with
    | true => rw [hr] at hst; exact hst.elim
    | false =>
      rw [hr, cond_false] at hst
      split at hst
      · rename_i ci' fs he
        cases hk0 : (Nat.beq ci ci' && Nat.blt k fs.length && xq_fit (xq_tk (xq_ty ci k)) v) with
        | false => rw [hk0] at hst; exact hst.elim
        | true =>
          rw [hk0, cond_true] at hst
          rw [Bool.and_eq_true, Bool.and_eq_true] at hk0
          have hkk : ci = ci' := Nat.eq_of_beq_eq_true hk0.1.1
          subst hkk
          obtain ⟨hz, kk⟩ := hst
          obtain ⟨f1, f2, f3, f4, f5, f6⟩ := xq_cf_of hc
          refine Or.inr fun H locs ls cells slots hP hD hS hL e1 e2 => ?_
          obtain ⟨g1, g2⟩ := xq_fit_ok (am := xq_am rt base) hk0.2
          have hl : k < (fs.map (xq_v (xq_am rt base))).length := by rw [List.length_map]; exact xq_blt_t hk0.1.2
          have kk : ∀ (H1 : Heap) (locs1 : List Loc), va_P D vwCl ((xq_w (xq_am rt base) cid 64 h).set (r - 64) (xq_am rt base r, .inr (ci, (fs.map (xq_v (xq_am rt base))).set k (xq_v (xq_am rt base) v)))) H1 → va_D (xq_A base) ((xq_w (xq_am rt base) cid 64 h).set (r - 64) (xq_am rt base r, .inr (ci, (fs.map (xq_v (xq_am rt base))).set k (xq_v (xq_am rt base) v)))) → va_S (xq_A base) s.heap H1 locs1 → W p l e R s m args below meth c H1 locs1 cells slots Q (F0 m (pc + 3) ls (t.map (xq_v (xq_am rt base)))) := by
            intro H1 locs1 hP1 hD1 hS1
            rw [← List.map_set] at hP1 hD1
            refine kk H1 locs1 ls cells slots ?_ ?_ hS1 hL (by rw [List.length_set]; exact e1) (by rw [xq_z_set (c := .inr (ci, fs.set k v)) (d := .inr (ci, fs)) (by show (fs.set k v).length = fs.length; rw [List.length_set]) h _ he]; exact e2)
            · rw [xq_w_put _ (xq_blt_f hr)]; exact hP1
            · rw [xq_w_put _ (xq_blt_f hr)]; exact hD1
          cases hfn : (T k).2.2.2 with
          | false => exact va_put hx hb hts f1 (xq_ty ci) f2 f3 hown hE.1 hP hD hS _ (xq_w_one (xq_blt_f hr) he) hc k hk (hts _ hlink) (fun x hx => by rw [hTk] at hx; exact hx) hfn (f2 k hk) g1 g2 hl hdg kk
          | true => exact va_putF hx hb hts f1 (xq_ty ci) f2 f3 hown hE.1 hP hD hS _ (xq_w_one (xq_blt_f hr) he) hc k hk (hts _ hlink) (fun x hx => by rw [hTk] at hx; exact hx) hfn (hfi hfn).1 (by rw [hTk]; exact (hfi hfn).2) (f2 k hk) g1 g2 hl hdg kk
      · exact hst.elim
  · exact hst.elim
/-- a new cell -/
theorem xq_new {cel : xq_C} {q k : Nat} {H1 : Heap} {locs : List Loc} {ls : Array Slot} {cells slots : Nat} {t : List Value} (hsz : s.heap.size ≤ base + l0) (hP1 : va_P D vwCl (xq_w (xq_am rt base) cid 64 h ++ [(q, xq_c (xq_am rt base) cid cel)]) H1) (hD1 : va_D (xq_A base) (xq_w (xq_am rt base) cid 64 h ++ [(q, xq_c (xq_am rt base) cid cel)])) (hS1 : va_S (xq_A base) s.heap H1 locs) (hL : xq_L (xq_am rt base) nL L ls) (e1 : l0 + cells = h.length) (e2 : z0 + slots = xq_z h) (kk : xq_G p l e R s m args below meth c Q D cid rt base l0 z0 nL (pc + k) L (.ref (64 + h.length) :: t) (h ++ [cel])) :
    W p l e R s m args below meth c H1 locs (cells + 1) (slots + xq_zc cel) Q (F0 m (pc + k) ls (.ref q :: t.map (xq_v (xq_am rt base)))) := by
  intro T hT X
  have hl : (xq_w (xq_am rt base) cid 64 h ++ [(q, xq_c (xq_am rt base) cid cel)])[(xq_w (xq_am rt base) cid 64 h).length]? = some (q, xq_c (xq_am rt base) cid cel) := by
    rw [List.getElem?_append_right (Nat.le_refl _), Nat.sub_self, List.getElem?_cons_zero]
  have h1 := (hP1 _ _ hl).lt
  have h2 := X.heapSize
  rw [hT] at h2
  have h1 : q < H1.size := h1
  have hq : q = base + h.length := xq_addr hD1 (by omega)
  have ew : xq_w (xq_am rt base) cid 64 (h ++ [cel]) = xq_w (xq_am rt base) cid 64 h ++ [(q, xq_c (xq_am rt base) cid cel)] := by
    rw [xq_w_app, hq]
    show _ ++ [(xq_am rt base (64 + h.length), _)] = _
    rw [xq_am_hi]
  have hw := kk H1 locs ls (cells + 1) (slots + xq_zc cel) (by rw [ew]; exact hP1) (by rw [ew]; exact hD1) hS1 hL (by rw [List.length_append, List.length_singleton]; omega) (by rw [xq_z_app]; show _ = _ + (xq_zc cel + 0); omega)
  rw [List.map_cons] at hw
  have ev : xq_v (xq_am rt base) (.ref (64 + h.length)) = .ref q := by
    show Value.ref (xq_am rt base (64 + h.length)) = _
    rw [xq_am_hi, hq]
  rw [ev] at hw
  exact hw T hT X
theorem xq_s_new {ci idx : Nat} {q : vw_C} (hB : xq_B p R s m args c bytes own nL d D cid ro rt adV base l0) (hc : vwCl[ci]? = some q) (hl1 : (Cond.classLink own idx q.1) ∈ xq_ws) (hl2 : (Cond.instantiable q.1 q.2.2) ∈ xq_ws) (hl3 : (Cond.initialized q.1) ∈ xq_ws) (hdg : decode bytes pc = .ok (.new idx, 3)) (hst : xq_T (fun pc' L' st' h' => (h'.length ≤ l0 + R.cells ∧ xq_z h' ≤ z0 + R.slots) ∧ xq_G p l e R s m args below meth c Q D cid rt base l0 z0 nL pc' L' st' h') E (xq_go (pc + 3) L (.ref (64 + h.length) :: st) (h ++ [.inr (ci, xq_df ci)]))) : E ∨ xq_G p l e R s m args below meth c Q D cid rt base l0 z0 nL pc L st h := by
  obtain ⟨hx, hb, hml, hown, hts, hE, hsz, hfr, hlo⟩ := hB
  obtain ⟨C, T, N⟩ := q
  obtain ⟨hz, kk⟩ := hst
  obtain ⟨f1, f2, f3, f4, f5, f6⟩ := xq_cf_of hc
  have hz1 : h.length + 1 ≤ l0 + R.cells := by have := hz.1; rw [List.length_append, List.length_singleton] at this; exact this
  have hz2 : xq_z h + N ≤ z0 + R.slots := by
    have h2 := hz.2
    rw [xq_z_app] at h2
    have h3 : xq_z [(.inr (ci, xq_df ci) : xq_C)] = N := by show (xq_df ci).length + 0 = N; exact f5
    omega
  refine Or.inr fun H locs ls cells slots hP hD hS hL e1 e2 => ?_
  refine va_new hx hb hts f1 (xq_ty ci) f2 hown (hts _ hl1) (hts _ hl2) (hts _ hl3) hE.1 hP hD hS (fun a ha => Nat.le_trans hE.2.2.2.2.2.2.2.2.2.2.1 ha) hc (fs := (xq_df ci).map (xq_v (xq_am rt base))) (fun j hj => by rw [xq_df_v hc]; exact f4 j hj) (by omega) (by show slots + N ≤ R.slots; omega) hdg fun q H1 hP1 hD1 hS1 => ?_
  have ez : xq_zc (.inr (ci, xq_df ci)) = N := f5
  have := xq_new (cel := .inr (ci, xq_df ci)) (k := 3) hsz hP1 hD1 hS1 hL e1 e2 kk
  rw [ez] at this
  exact this
theorem xq_cid {k : Nat} {cA : ClassId} {ty : FieldType} (hE : va_K D vwCl (xq_tys cid) s) (hK1 : va_K D vwCl (xq_tys cid ++ [(cA, ty)]) s) (ht : (xq_tys cid)[k]? = some (cid k, ty)) : cA = cid k := by
  have a := (hE.2 k _ ht).2
  have b := (hK1.2 6 (cA, ty) rfl).2
  have key : ∀ (x : ClassId), va_RA s x ty → s.vm.findClass ("[" ++ ty.toString) = some x := by
    intro x hx
    cases ty with
    | object C => exact hx.choose_spec.choose_spec.2.2.2
    | _ => exact hx
  exact Option.some.inj ((key _ b).symm.trans (key _ a))
theorem xq_s_newi {k : Nat} {at' : ArrayType} {ty : FieldType} (hB : xq_B p R s m args c bytes own nL d D cid ro rt adV base l0) (hty : newarray.typeOf at' = ty) (ht : (xq_tys cid)[k]? = some (cid k, ty)) (hd : ∀ (cA : ClassId) (N : Nat), vp_cell cA (N, .inl (fun _ => 0)) = arrV cA N (fun _ => defaultValue ty)) (hby : componentBytes ty ≤ 4) (hw : (Cond.arrayClass ty) ∈ xq_ws) (hdg : decode bytes pc = .ok (.newarray at', 2)) (hst : xq_T (fun pc' L' st' h' => (h'.length ≤ l0 + R.cells ∧ xq_z h' ≤ z0 + R.slots) ∧ xq_G p l e R s m args below meth c Q D cid rt base l0 z0 nL pc' L' st' h') E (xq_newi k pc L st h)) : E ∨ xq_G p l e R s m args below meth c Q D cid rt base l0 z0 nL pc L st h := by
  obtain ⟨hx, hb, hml, hown, hts, hE, hsz, hfr, hlo⟩ := hB
  unfold xq_newi at hst
  split at hst
  · rename_i n t
    cases hn : (!decide (n < 0) && Nat.ble n.toNatClampNeg 100000) with
    | false => rw [hn] at hst; exact hst.elim
    | true =>
      rw [hn, cond_true] at hst
      rw [Bool.and_eq_true] at hn
      have h0 : ¬ n < 0 := by
        intro q
        rw [decide_eq_true q] at hn
        exact absurd hn.1 (by decide)
      have h5 : n.toNatClampNeg ≤ 100000 := Nat.le_of_ble_eq_true hn.2
      obtain ⟨hz, kk⟩ := hst
      have hz1 : h.length + 1 ≤ l0 + R.cells := by have := hz.1; rw [List.length_append, List.length_singleton] at this; exact this
      have hz2 : xq_z h + n.toNatClampNeg ≤ z0 + R.slots := by
        have h2 := hz.2
        rw [xq_z_app] at h2
        have h3 : xq_z [(.inl (k, n.toNatClampNeg, .inl (fun _ => 0)) : xq_C)] = n.toNatClampNeg := rfl
        omega
      refine Or.inr fun H locs ls cells slots hP hD hS hL e1 e2 => ?_
      refine va_newa (atype := at') hx hb (by rw [hty]; exact hts _ hw) hty hE.1 hP hD hS (fun a ha => Nat.le_trans hE.2.2.2.2.2.2.2.2.2.2.1 ha) (fun cA => hd cA n.toNatClampNeg) h0 rfl (Nat.le_trans (Nat.mul_le_mul h5 hby) (Nat.le_of_ble_eq_true rfl)) (by omega) (by omega) hdg fun q cA H1 hK1 hP1 hD1 hS1 => ?_
      have hcA := xq_cid hE.1 hK1 ht
      subst hcA
      exact xq_new (cel := .inl (k, n.toNatClampNeg, .inl (fun _ => 0))) (k := 2) hsz hP1 hD1 hS1 hL e1 e2 kk
  · exact hst.elim
theorem xq_s_newr {k idx : Nat} {C : String} (hB : xq_B p R s m args c bytes own nL d D cid ro rt adV base l0) (ht : (xq_tys cid)[k]? = some (cid k, .object C)) (hover : va_AO C s) (hw : (Cond.classLink own idx C) ∈ xq_ws) (hdg : decode bytes pc = .ok (.anewarray idx, 3)) (hst : xq_T (fun pc' L' st' h' => (h'.length ≤ l0 + R.cells ∧ xq_z h' ≤ z0 + R.slots) ∧ xq_G p l e R s m args below meth c Q D cid rt base l0 z0 nL pc' L' st' h') E (xq_newr k pc L st h)) : E ∨ xq_G p l e R s m args below meth c Q D cid rt base l0 z0 nL pc L st h := by
  obtain ⟨hx, hb, hml, hown, hts, hE, hsz, hfr, hlo⟩ := hB
  unfold xq_newr at hst
  split at hst
  · rename_i n t
    cases hn : (!decide (n < 0) && Nat.ble n.toNatClampNeg 100000 && Nat.blt 3 k && Nat.blt k 6) with
    | false => rw [hn] at hst; exact hst.elim
    | true =>
      rw [hn, cond_true] at hst
      rw [Bool.and_eq_true, Bool.and_eq_true, Bool.and_eq_true] at hn
      have h0 : ¬ n < 0 := by
        intro q
        rw [decide_eq_true q] at hn
        exact absurd hn.1.1.1 (by decide)
      have h5 : n.toNatClampNeg ≤ 100000 := Nat.le_of_ble_eq_true hn.1.1.2
      obtain ⟨hz, kk⟩ := hst
      have hz1 : h.length + 1 ≤ l0 + R.cells := by have := hz.1; rw [List.length_append, List.length_singleton] at this; exact this
      have hz2 : xq_z h + n.toNatClampNeg ≤ z0 + R.slots := by
        have h2 := hz.2
        rw [xq_z_app] at h2
        have h3 : xq_z [(.inl (k, n.toNatClampNeg, .inr (fun _ => none)) : xq_C)] = n.toNatClampNeg := rfl
        omega
      refine Or.inr fun H locs ls cells slots hP hD hS hL e1 e2 => ?_
      refine va_newq hx hb hown (hts _ hw) hover hE.1 hP hD hS (fun a ha => Nat.le_trans hE.2.2.2.2.2.2.2.2.2.2.1 ha) h0 rfl (Nat.le_trans (Nat.mul_le_mul h5 (Nat.le_refl 4)) (Nat.le_of_ble_eq_true rfl)) (by omega) (by omega) hdg fun q cA H1 hK1 hP1 hD1 hS1 => ?_
      have hcA := xq_cid hE.1 hK1 ht
      subst hcA
      exact xq_new (cel := .inl (k, n.toNatClampNeg, .inr (fun _ => none))) (k := 3) hsz hP1 hD1 hS1 hL e1 e2 kk
  · exact hst.elim
end XQ7
