/-! ONE INSTRUCTION: arrays, fields, new objects. -/
theorem xq_in_vp {i : Int32} {n : Nat} (h : xq_in i n = true) : vp_in i n := by
  unfold xq_in at h
  rw [Bool.and_eq_true] at h
  intro q
  rcases q with q | q
  · rw [decide_eq_true q] at h
    exact absurd h.1 (by decide)
  · exact absurd (Nat.blt_eq.mp h.2) (Nat.not_lt.mpr q)
theorem xq_am_lo {rt : Nat → Nat} {base r : Nat} (h : r < 64) : xq_am rt base r = rt r := if_pos h
theorem xq_am_hi {rt : Nat → Nat} {base i : Nat} : xq_am rt base (64 + i) = base + i := by
  unfold xq_am
  rw [if_neg (by omega), show 64 + i - 64 = i by omega]
theorem xq_blt_t {a b : Nat} (h : Nat.blt a b = true) : a < b := Nat.blt_eq.mp h
theorem xq_blt_f {a b : Nat} (h : Nat.blt a b = false) : ¬ a < b := fun q => by rw [Nat.blt_eq.mpr q] at h; cases h
/-- a new cell's place -/
theorem xq_addr {rt : Nat → Nat} {base : Nat} {cid : Nat → ClassId} {h : xq_H} {q : Nat} {e : va_E} {rest : va_W} (hD : va_D (xq_A base) (xq_w (xq_am rt base) cid 64 h ++ (q, e) :: rest)) (hlt : q < base + h.length + 1) : q = base + h.length := by
  have hl : (xq_w (xq_am rt base) cid 64 h).length = h.length := by
    have : ∀ (h : xq_H) (i : Nat), (xq_w (xq_am rt base) cid i h).length = h.length := by
      intro h
      induction h with
      | nil => intro i; rfl
      | cons c t ih => intro i; rw [xq_w, List.length_cons, List.length_cons, ih]
    exact this h 64
  have h1 : (xq_w (xq_am rt base) cid 64 h ++ (q, e) :: rest)[h.length]? = some (q, e) := by
    rw [List.getElem?_append_right (by omega), hl, Nat.sub_self, List.getElem?_cons_zero]
  have hA : base ≤ q := hD.2 _ _ h1
  rcases Nat.lt_or_ge q (base + h.length) with z | z
  · have hi : q - base < h.length := by omega
    have h2 : (xq_w (xq_am rt base) cid 64 h ++ (q, e) :: rest)[q - base]? = some (q, xq_c (xq_am rt base) cid h[q - base]) := by
      rw [List.getElem?_append_left (by omega), xq_w_at, List.getElem?_eq_getElem hi, Option.map_some, xq_am_hi, show base + (q - base) = q by omega]
    have := hD.1 _ _ _ _ h2 h1 rfl
    omega
  · omega
section XQ6
variable {p : Program} {l : Launch} {e : Env} {R : Room} {s : State} {m : MethodId} {args : Array Value} {below : List Frame} {meth : Method} {c : Code} {Q : State → Prop} {D : va_G} {cid : Nat → ClassId} {rt adV : Nat → Nat} {ro : Nat → Option xq_C} {base l0 z0 nL d : Nat} {bytes : ByteArray} {own : String} {E : Prop} {pc : Nat} {L : List (Option Value)} {st : List Value} {h : xq_H}
theorem xq_s_ald {k : Nat} (hB : xq_B p R s m args c bytes own nL d D cid ro rt adV base l0) (row : ∀ {H : Heap} {locs : List Loc} {cells slots : Nat} {ls : Array Slot} {rest : List Value} {ws : va_W} {q0 a n : Nat} {f : Nat → Int32} {i : Int32}, va_P D vwCl ws H → ws[q0]? = some (a, .inl (cid k, n, .inl f)) → vp_in i n → W p l e R s m args below meth c H locs cells slots Q (F0 m (pc + 1) ls (.int (f i.toNatClampNeg) :: rest)) → W p l e R s m args below meth c H locs cells slots Q (F0 m pc ls (.int i :: .ref a :: rest))) (hro : k = 0 → decode bytes pc = .ok (.iaload, 1)) (hst : xq_T (fun pc' L' st' h' => (h'.length ≤ l0 + R.cells ∧ xq_z h' ≤ z0 + R.slots) ∧ xq_G p l e R s m args below meth c Q D cid rt base l0 z0 nL pc' L' st' h') E (xq_aldi ro k pc L st h)) : E ∨ xq_G p l e R s m args below meth c Q D cid rt base l0 z0 nL pc L st h := by
  obtain ⟨hx, hb, hml, hown, hts, hE, hsz, hfr, hlo⟩ := hB
  unfold xq_aldi at hst
  split at hst
  · rename_i i r t
    split at hst
    · rename_i k' n f hc
      cases hk : (Nat.beq k k' && xq_in i n) with
      | false => rw [hk] at hst; exact hst.elim
      | true =>
        rw [hk] at hst
        rw [Bool.and_eq_true] at hk
        have hkk : k = k' := Nat.eq_of_beq_eq_true hk.1
        subst hkk
        obtain ⟨hz, kk⟩ := hst
        refine Or.inr fun H locs ls cells slots hP hD hS hL e1 e2 => ?_
        have kk := kk H locs ls cells slots hP hD hS hL e1 e2
        unfold xq_at at hc
        cases hr : Nat.blt r 64 with
        | false =>
          rw [hr, cond_false] at hc
          exact row hP (xq_w_one (xq_blt_f hr) hc) (xq_in_vp hk.2) kk
        | true =>
          rw [hr, cond_true] at hc
          obtain ⟨n', f', g1, g2⟩ := hE.2.1 r _ (xq_blt_t hr) hc
          simp only [Sum.inl.injEq, Prod.mk.injEq] at g1
          obtain ⟨rfl, rfl, rfl⟩ := g1
          show W p l e R s m args below meth c H locs cells slots Q (F0 m pc ls (.int i :: .ref (xq_am rt base r) :: t.map (xq_v (xq_am rt base))))
          rw [xq_am_lo (xq_blt_t hr)]
          obtain ⟨cell, t1, t2, t3, t4, t5, t6, t7⟩ := g2.kept hS.2.1
          have hin := xq_in_vp hk.2
          have hlt : i.toNatClampNeg < n := Nat.not_le.mp fun q => hin (Or.inr q)
          exact W.iald (v := .int (f i.toNatClampNeg)) hx hb t1 t2 t3 (fun q => by rcases q with q | q; exact hin (Or.inl q); omega) (t6 _ hlt) rfl rfl (hro rfl) kk
    · exact hst.elim
  · exact hst.elim
theorem xq_s_alen (hB : xq_B p R s m args c bytes own nL d D cid ro rt adV base l0) (hdg : decode bytes pc = .ok (.arraylength, 1)) (hst : xq_T (fun pc' L' st' h' => (h'.length ≤ l0 + R.cells ∧ xq_z h' ≤ z0 + R.slots) ∧ xq_G p l e R s m args below meth c Q D cid rt base l0 z0 nL pc' L' st' h') E (xq_alen ro pc L st h)) : E ∨ xq_G p l e R s m args below meth c Q D cid rt base l0 z0 nL pc L st h := by
  obtain ⟨hx, hb, hml, hown, hts, hE, hsz, hfr, hlo⟩ := hB
  unfold xq_alen at hst
  split at hst
  · rename_i r t
    split at hst
    · rename_i k' n f hc
      cases hk : Nat.blt k' 6 with
      | false => rw [hk] at hst; exact hst.elim
      | true =>
        rw [hk] at hst
        obtain ⟨hz, kk⟩ := hst
        refine Or.inr fun H locs ls cells slots hP hD hS hL e1 e2 => ?_
        have kk := kk H locs ls cells slots hP hD hS hL e1 e2
        unfold xq_at at hc
        cases hr : Nat.blt r 64 with
        | false =>
          rw [hr, cond_false] at hc
          have hw := xq_w_one (rt := rt) (base := base) (cid := cid) (xq_blt_f hr) hc
          have hk6 := xq_blt_t hk
          have ht : ∃ ty, (xq_tys cid)[k']? = some (cid k', ty) := by
            rcases (show k' = 0 ∨ k' = 1 ∨ k' = 2 ∨ k' = 3 ∨ k' = 4 ∨ k' = 5 by omega) with rfl | rfl | rfl | rfl | rfl | rfl <;> exact ⟨_, rfl⟩
          obtain ⟨ty, ht⟩ := ht
          cases f with
          | inl f => exact va_alen hx hb hE.1 hP _ k' hw ht rfl hdg kk
          | inr f => exact va_alen hx hb hE.1 hP _ k' hw ht rfl hdg kk
        | true =>
          rw [hr, cond_true] at hc
          obtain ⟨n', f', g1, g2⟩ := hE.2.1 r _ (xq_blt_t hr) hc
          simp only [Sum.inl.injEq, Prod.mk.injEq] at g1
          obtain ⟨rfl, rfl, rfl⟩ := g1
          show W p l e R s m args below meth c H locs cells slots Q (F0 m pc ls (.ref (xq_am rt base r) :: t.map (xq_v (xq_am rt base))))
          rw [xq_am_lo (xq_blt_t hr)]
          obtain ⟨cell, t1, t2, t3, t4, t5, t6, t7⟩ := g2.kept hS.2.1
          exact W.alen (n := Int32.ofNat n) hx hb t1 t2 t5 rfl rfl hdg kk
    · exact hst.elim
  · exact hst.elim
theorem xq_s_aldr (hB : xq_B p R s m args c bytes own nL d D cid ro rt adV base l0) (hdg : decode bytes pc = .ok (.aaload, 1)) (hst : xq_T (fun pc' L' st' h' => (h'.length ≤ l0 + R.cells ∧ xq_z h' ≤ z0 + R.slots) ∧ xq_G p l e R s m args below meth c Q D cid rt base l0 z0 nL pc' L' st' h') E (xq_aldr ro pc L st h)) : E ∨ xq_G p l e R s m args below meth c Q D cid rt base l0 z0 nL pc L st h := by
  obtain ⟨hx, hb, hml, hown, hts, hE, hsz, hfr, hlo⟩ := hB
  unfold xq_aldr at hst
  split at hst
  · rename_i i r t
    cases hr : Nat.blt r 64 with
    | true => rw [hr] at hst; exact hst.elim
    | false =>
      rw [hr, cond_false] at hst
      split at hst
      · rename_i k' n f hc
        cases hk : (Nat.blt 2 k' && Nat.blt k' 6 && xq_in i n) with
        | false => rw [hk] at hst; exact hst.elim
        | true =>
          rw [hk] at hst
          rw [Bool.and_eq_true, Bool.and_eq_true] at hk
          obtain ⟨hz, kk⟩ := hst
          refine Or.inr fun H locs ls cells slots hP hD hS hL e1 e2 => ?_
          have kk := kk H locs ls cells slots hP hD hS hL e1 e2
          have hw := xq_w_one (rt := rt) (base := base) (cid := cid) (xq_blt_f hr) hc
          have ev : xq_v (xq_am rt base) (xq_ref (f i.toNatClampNeg)) = va_rf ((f i.toNatClampNeg).map (xq_am rt base)) := by
            cases f i.toNatClampNeg <;> rfl
          rw [List.map_cons, ev] at kk
          have h1 := xq_blt_t hk.1.1
          have h2 := xq_blt_t hk.1.2
          have hin := xq_in_vp hk.2
          have hlt : i.toNatClampNeg < n := Nat.not_le.mp fun q => hin (Or.inr q)
          rcases (show k' = 3 ∨ k' = 4 ∨ k' = 5 by omega) with rfl | rfl | rfl
          · exact W.aald (v := va_rf ((f i.toNatClampNeg).map (xq_am rt base))) (ty := .array .int) hx hb (hP _ _ hw) ((hE.1.2 3 _ rfl).1 n (fun j => va_rf ((f j).map (xq_am rt base)))) rfl (fun q => by cases q) (by show ¬ (i < 0 ∨ (arrV _ _ _).slots.size ≤ _); rw [arrV_size]; exact hin) (by show (arrV _ _ _).slots[_]? = _; rw [arrV_read _ _ hlt]) rfl rfl hdg kk
          · exact va_aldq hx hb hE.1 hP _ 4 hw rfl hin hdg kk
          · exact va_aldq hx hb hE.1 hP _ 5 hw rfl hin hdg kk
      · exact hst.elim
  · exact hst.elim
theorem xq_s_asti {k : Nat} {nar : Int32 → Int32} (row : ∀ {H : Heap} {locs : List Loc} {cells slots : Nat} {ls : Array Slot} {rest : List Value} {ws : va_W} {q0 a n : Nat} {f : Nat → Int32} {i x : Int32}, va_P D vwCl ws H → va_D (xq_A base) ws → va_S (xq_A base) s.heap H locs → ws[q0]? = some (a, .inl (cid k, n, .inl f)) → vp_in i n → (∀ (H1 : Heap) (locs1 : List Loc), va_P D vwCl (ws.set q0 (a, .inl (cid k, n, .inl (upd f i.toNatClampNeg (nar x))))) H1 → va_D (xq_A base) (ws.set q0 (a, .inl (cid k, n, .inl (upd f i.toNatClampNeg (nar x))))) → va_S (xq_A base) s.heap H1 locs1 → W p l e R s m args below meth c H1 locs1 cells slots Q (F0 m (pc + 1) ls rest)) → W p l e R s m args below meth c H locs cells slots Q (F0 m pc ls (.int x :: .int i :: .ref a :: rest)))
    (hst : xq_T (fun pc' L' st' h' => (h'.length ≤ l0 + R.cells ∧ xq_z h' ≤ z0 + R.slots) ∧ xq_G p l e R s m args below meth c Q D cid rt base l0 z0 nL pc' L' st' h') E (xq_asti k nar pc L st h)) : E ∨ xq_G p l e R s m args below meth c Q D cid rt base l0 z0 nL pc L st h := by
  unfold xq_asti at hst
  split at hst
  · rename_i x i r t
    cases hr : Nat.blt r 64 with
    | true => rw [hr] at hst; exact hst.elim
    | false =>
      rw [hr, cond_false] at hst
      split at hst
      · rename_i k' n f hc
        cases hk : (Nat.beq k k' && xq_in i n) with
        | false => rw [hk] at hst; exact hst.elim
        | true =>
          rw [hk] at hst
          rw [Bool.and_eq_true] at hk
          have hkk : k = k' := Nat.eq_of_beq_eq_true hk.1
          subst hkk
          obtain ⟨hz, kk⟩ := hst
          refine Or.inr fun H locs ls cells slots hP hD hS hL e1 e2 => row hP hD hS (xq_w_one (xq_blt_f hr) hc) (xq_in_vp hk.2) fun H1 locs1 hP1 hD1 hS1 => ?_
          refine kk H1 locs1 ls cells slots ?_ ?_ hS1 hL (by rw [List.length_set]; exact e1) (by rw [xq_z_set (c := .inl (k, n, .inl (upd f i.toNatClampNeg (nar x)))) (d := .inl (k, n, .inl f)) rfl h _ hc]; exact e2)
          · rw [xq_w_put _ (xq_blt_f hr)]; exact hP1
          · rw [xq_w_put _ (xq_blt_f hr)]; exact hD1
      · exact hst.elim
  · exact hst.elim
theorem xq_s_astr (hB : xq_B p R s m args c bytes own nL d D cid ro rt adV base l0) (hdg : decode bytes pc = .ok (.aastore, 1)) (hst : xq_T (fun pc' L' st' h' => (h'.length ≤ l0 + R.cells ∧ xq_z h' ≤ z0 + R.slots) ∧ xq_G p l e R s m args below meth c Q D cid rt base l0 z0 nL pc' L' st' h') E (xq_astr pc L st h)) : E ∨ xq_G p l e R s m args below meth c Q D cid rt base l0 z0 nL pc L st h := by
  obtain ⟨hx, hb, hml, hown, hts, hE, hsz, hfr, hlo⟩ := hB
  unfold xq_astr at hst
  split at hst
  · rename_i q i r t
    cases hr : (Nat.blt r 64 || Nat.blt q 64) with
    | true => rw [hr] at hst; exact hst.elim
    | false =>
      rw [hr, cond_false] at hst
      rw [Bool.or_eq_false_iff] at hr
      split at hst
      · rename_i k' n f ci vs hc hq
        cases hk : (Nat.beq ci (xq_kc k') && xq_in i n) with
        | false => rw [hk] at hst; exact hst.elim
        | true =>
          rw [hk] at hst
          rw [Bool.and_eq_true] at hk
          have hkk : ci = xq_kc k' := Nat.eq_of_beq_eq_true hk.1
          obtain ⟨hz, kk⟩ := hst
          refine Or.inr fun H locs ls cells slots hP hD hS hL e1 e2 => ?_
          have hw := xq_w_one (rt := rt) (base := base) (cid := cid) (xq_blt_f hr.1) hc
          have hwq := xq_w_one (rt := rt) (base := base) (cid := cid) (xq_blt_f hr.2) hq
          have kk := fun H1 locs1 hP1 hD1 hS1 => kk H1 locs1 ls cells slots hP1 hD1 hS1 hL (by rw [List.length_set]; exact e1) (by rw [xq_z_set (c := .inl (k', n, .inr (va_up f i.toNatClampNeg (some q)))) (d := .inl (k', n, .inr f)) rfl h _ hc]; exact e2)
          have ef : ∀ j : Nat, (fun j => ((va_up f i.toNatClampNeg (some q)) j).map (xq_am rt base)) j = va_up (fun j => (f j).map (xq_am rt base)) i.toNatClampNeg (some (xq_am rt base q)) j := by
            intro j
            unfold va_up
            by_cases e : j = i.toNatClampNeg
            · simp [e]
            · simp [e]
          have ew : xq_w (xq_am rt base) cid 64 (h.set (r - 64) (.inl (k', n, .inr (va_up f i.toNatClampNeg (some q))))) = (xq_w (xq_am rt base) cid 64 h).set (r - 64) (xq_am rt base r, .inl (cid k', n, .inr (.inr (.inr (.inr (va_up (fun j => (f j).map (xq_am rt base)) i.toNatClampNeg (some (xq_am rt base q)))))))) := by
            rw [xq_w_put _ (xq_blt_f hr.1)]
            rw [xq_c, funext ef]
          rw [ew] at kk
          have h45 : k' = 4 ∨ k' = 5 := by
            unfold xq_kc at hkk
            split at hkk
            · exact Or.inl rfl
            · exact Or.inr rfl
            · subst hkk
              obtain ⟨r', hr', -⟩ := hP _ _ hwq
              cases hr'
          rcases h45 with rfl | rfl
          · have hkk : ci = 5 := hkk
            subst hkk
            exact va_astq hx hb hE.1 hP hD hS _ 4 _ 5 (r := (RX5, TX5, 3)) hw rfl hwq rfl (xq_in_vp hk.2) hdg kk
          · have hkk : ci = 7 := hkk
            subst hkk
            exact va_astq hx hb hE.1 hP hD hS _ 5 _ 7 (r := (RX7, TX7, 3)) hw rfl hwq rfl (xq_in_vp hk.2) hdg kk
      · exact hst.elim
  · exact hst.elim
end XQ6
