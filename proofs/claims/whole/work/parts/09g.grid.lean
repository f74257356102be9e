/-! ONE INSTRUCTION: new int[N][M] (part 09f). -/
section XQ9g
variable {p : Program} {l : Launch} {e : Env} {R : Room} {s : State} {m : MethodId} {args : Array Value} {below : List Frame} {meth : Method} {c : Code} {Q : State → Prop} {D : va_G} {cid : Nat → ClassId} {rt adV : Nat → Nat} {ro : Nat → Option xq_C} {base l0 z0 nL d : Nat} {bytes : ByteArray} {own : String} {E : Prop} {pc : Nat} {L : List (Option Value)} {st : List Value} {h : xq_H}
theorem xq_s_newg {idx : Nat} (hB : xq_B p R s m args c bytes own nL d D cid ro rt adV base l0) (hw : (Cond.classLink own idx "[[I") ∈ xq_ws) (hai : (Cond.arrayClass .int) ∈ xq_ws) (hdg : decode bytes pc = .ok (.multianewarray idx 2, 4)) (hst : xq_T (fun pc' L' st' h' => (h'.length ≤ l0 + R.cells ∧ xq_z h' ≤ z0 + R.slots) ∧ xq_G p l e R s m args below meth c Q D cid rt base l0 z0 nL pc' L' st' h') E (xq_newg pc L st h)) : E ∨ xq_G p l e R s m args below meth c Q D cid rt base l0 z0 nL pc L st h := by
  obtain ⟨hx, hb, hml, hown, hts, hE, hsz, hfr, hlo⟩ := hB
  unfold xq_newg at hst
  split at hst
  · rename_i k n t
    cases hk : (!decide (n < 0) && Nat.ble n.toNatClampNeg 1000 && !decide (k < 0) && Nat.ble k.toNatClampNeg 1000) with
    | false => rw [hk] at hst; exact hst.elim
    | true =>
      rw [hk, cond_true] at hst
      rw [Bool.and_eq_true, Bool.and_eq_true, Bool.and_eq_true] at hk
      obtain ⟨⟨⟨k1, k2⟩, k3⟩, k4⟩ := hk
      have nn : ∀ x : Int32, (!decide (x < 0)) = true → ¬ x < 0 := fun x hx q => by
        rw [decide_eq_true q] at hx
        cases hx
      have n1 := Nat.le_of_ble_eq_true k2
      have n2 := Nat.le_of_ble_eq_true k4
      obtain ⟨hz, kk⟩ := hst
      generalize hN : n.toNatClampNeg = N at *
      generalize hM : k.toNatClampNeg = M at *
      have hrz : xq_z (List.replicate N (.inl (0, M, .inl (fun _ => 0)) : xq_C)) = N * M := by
        have : ∀ a : Nat, xq_z (List.replicate a (.inl (0, M, .inl (fun _ => 0)) : xq_C)) = a * M := by
          intro a
          induction a with
          | zero => simp [xq_z]
          | succ a ih => rw [List.replicate_succ, xq_z, ih, Nat.succ_mul]; show M + _ = _; omega
        exact this N
      have hz1 : h.length + (1 + N) ≤ l0 + R.cells := by
        have := hz.1
        rw [List.length_append, List.length_cons, List.length_replicate] at this
        omega
      have hz2 : xq_z h + (N + N * M) ≤ z0 + R.slots := by
        have h2 := hz.2
        rw [xq_z_app, xq_z, hrz] at h2
        have h3 : xq_zc (.inl (3, N, .inr (fun i => if i < N then some (65 + h.length + i) else none))) = N := rfl
        omega
      refine Or.inr fun H locs ls cells slots hP hD hS hL e1 e2 T hT X => ?_
      have hHs : H.size = base + h.length := by
        have a := X.heapSize
        rw [hT] at a
        rcases Nat.eq_zero_or_pos h.length with z | z
        · have := hS.1
          have := hE.2.2.2.2.2.2.2.2.2.2.1
          omega
        · have hq : (xq_w (xq_am rt base) cid 64 h)[h.length - 1]? = some (base + (h.length - 1), xq_c (xq_am rt base) cid (h[h.length - 1]'(by omega))) := by
            rw [xq_w_at, List.getElem?_eq_getElem (by omega), Option.map_some, xq_am_hi]
          have b := (hP _ _ hq).lt
          have b : base + (h.length - 1) < H.size := b
          omega
      obtain ⟨vm₁, cA, comp, fA, fC, X', step⟩ := xg_step X hx hown (hts _ hw) hE.2.2.2.2.2.2.2.2.2.1 (hts _ hai) (pc := pc) (ls := ls) (rest := t.map (xq_v (xq_am rt base))) (by rw [hb]; exact hdg) (nn _ k1) (nn _ k3) (by rw [hN]; exact n1) (by rw [hM]; exact n2) (by rw [hN]; omega) (by rw [hN, hM]; omega)
      rw [hN, hM] at X' step
      have eA : cA = cid 3 := Option.some.inj (fA.symm.trans (hE.1.2 3 _ rfl).2)
      have eC : comp = cid 0 := Option.some.inj (fC.symm.trans (hE.1.2 0 _ rfl).2)
      subst eA
      subst eC
      obtain ⟨f1, f2, hold, hrow, -⟩ := xg_F_L (T.setVm vm₁) (xg_o (cid 3) N T.heap.size) (xg_w (cid 0) M) N
      rw [show (T.setVm vm₁).heap = H from hT] at f1 f2 hold hrow
      generalize xg_F (T.setVm vm₁) (xg_o (cid 3) N T.heap.size) (xg_w (cid 0) M) N = Fs at X' step f1 f2 hold hrow
      rw [hT] at f2
      have hP1 : va_P D vwCl (xq_w (xq_am rt base) cid 64 (h ++ (.inl (3, N, .inr (fun i => if i < N then some (65 + h.length + i) else none)) :: List.replicate N (.inl (0, M, .inl (fun _ => 0)))))) Fs.heap := by
        intro j q hq
        rw [xq_w_at] at hq
        obtain ⟨cc, h1, rfl⟩ := Option.map_eq_some_iff.mp hq
        rcases Nat.lt_or_ge j h.length with z | z
        · rw [List.getElem?_append_left z] at h1
          have hq0 : (xq_w (xq_am rt base) cid 64 h)[j]? = some (xq_am rt base (64 + j), xq_c (xq_am rt base) cid cc) := by rw [xq_w_at, h1]; rfl
          have hv := hP _ _ hq0
          exact hv.kept (hold _ hv.lt)
        · rw [List.getElem?_append_right z] at h1
          rcases Nat.eq_zero_or_pos (j - h.length) with w | w
          · rw [w, List.getElem?_cons_zero] at h1
            cases h1
            show Fs.heap[xq_am rt base (64 + j)]? = some (vp_cell (cid 3) (N, .inr (.inr (.inr (.inr _)))))
            rw [xq_am_hi, show base + j = H.size by omega, f2, vp_cell_q]
            unfold xg_o
            refine congrArg some (congrArg (arrV (cid 3) N) (funext fun i => congrArg va_rf ?_))
            dsimp only
            by_cases q : i < N
            · rw [if_pos q, if_pos q, Option.map_some, show 65 + h.length + i = 64 + (h.length + 1 + i) by omega, xq_am_hi]
              rw [hHs]
              congr 1
              omega
            · rw [if_neg q, if_neg q]
              rfl
          · obtain ⟨i, hi⟩ : ∃ i, j - h.length = i + 1 := ⟨j - h.length - 1, by omega⟩
            rw [hi, List.getElem?_cons_succ, List.getElem?_replicate] at h1
            by_cases q : i < N
            · rw [if_pos q] at h1
              cases h1
              show Fs.heap[xq_am rt base (64 + j)]? = some (vp_cell (cid 0) (M, .inl (fun _ => 0)))
              rw [xq_am_hi, show base + j = H.size + 1 + i by omega, hrow i q, vp_cell_i]
              rfl
            · rw [if_neg q] at h1
              cases h1
      have hS1 : va_S (xq_A base) s.heap Fs.heap locs := ⟨Nat.le_trans hS.1 (by rw [f1]; omega), fun x h1 h2 => (hold x (Nat.lt_of_lt_of_le h1 hS.1)).trans (hS.2.1 x h1 h2), hS.2.2⟩
      have hw2 := kk Fs.heap locs ls (cells + 1 + N) (slots + N + N * M) hP1 (xq_D_all _) hS1 hL (by rw [List.length_append, List.length_cons, List.length_replicate]; omega) (by
        rw [xq_z_app, xq_z, hrz]
        have h3 : xq_zc (.inl (3, N, .inr (fun i => if i < N then some (65 + h.length + i) else none))) = N := rfl
        omega) Fs rfl X'
      obtain ⟨t2, a1, b1⟩ := hw2
      refine ⟨t2, step t2 ?_, b1⟩
      have ev : (Value.ref (64 + h.length) :: t).map (xq_v (xq_am rt base)) = .ref T.heap.size :: t.map (xq_v (xq_am rt base)) := by
        show Value.ref (xq_am rt base (64 + h.length)) :: _ = _
        rw [xq_am_hi, hT, hHs]
      rw [ev] at a1
      exact a1
  · exact hst.elim
end XQ9g
