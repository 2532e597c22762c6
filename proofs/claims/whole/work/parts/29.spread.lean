/-! spread -/
theorem cnt_mono {P Q : Nat → Bool} : ∀ {n : Nat}, (∀ b, b < n → Q b = true → P b = true) → cntB Q n ≤ cntB P n := by
  intro n
  induction n with
  | zero => intro _; exact Nat.le_refl _
  | succ n ih =>
    intro h
    rw [cntB, cntB]
    have := ih (fun b hb => h b (by omega))
    by_cases q : Q n = true
    · rw [if_pos q, if_pos (h n (by omega) q)]; omega
    · rw [if_neg q]; omega
theorem cnt_lt {P Q : Nat → Bool} : ∀ {n : Nat}, (∀ b, b < n → Q b = true → P b = true) → (∃ b, b < n ∧ P b = true ∧ Q b = false) → cntB Q n < cntB P n := by
  intro n
  induction n with
  | zero => rintro _ ⟨b, h, _⟩; omega
  | succ n ih =>
    rintro h ⟨b, hb, p, q⟩
    rw [cntB, cntB]
    by_cases e : b = n
    · subst e
      have := cnt_mono (n := b) (P := P) (Q := Q) (fun c hc => h c (by omega))
      rw [if_pos p, if_neg (by rw [q]; decide)]
      omega
    · have := ih (fun c hc => h c (by omega)) ⟨b, by omega, p, q⟩
      by_cases q : Q n = true
      · rw [if_pos q, if_pos (h n (by omega) q)]; omega
      · rw [if_neg q]; omega
def sumN (f : Nat → Nat) : Nat → Nat
  | 0 => 0
  | n + 1 => sumN f n + f n
theorem sumN_congr {f g : Nat → Nat} : ∀ {n : Nat}, (∀ i, i < n → f i = g i) → sumN f n = sumN g n := by
  intro n
  induction n with
  | zero => intro _; rfl
  | succ n ih => intro h; rw [sumN, sumN, ih (fun i hi => h i (by omega)), h n (by omega)]
theorem sumN_lt {f g : Nat → Nat} : ∀ {n : Nat} (x : Nat), x < n → g x < f x → (∀ i, i < n → i ≠ x → g i = f i) → sumN g n < sumN f n := by
  intro n
  induction n with
  | zero => intro x h; omega
  | succ n ih =>
    intro x hx hl he
    rw [sumN, sumN]
    by_cases e : x = n
    · subst e
      rw [sumN_congr (n := x) (fun i hi => he i (by omega) (by omega))]
      omega
    · have := ih x (by omega) hl (fun i hi hn => he i (by omega) hn)
      rw [he n (by omega) (fun q => e q.symm)]
      omega
theorem sumN_le {f : Nat → Nat} {B : Nat} (h : ∀ i, f i ≤ B) : ∀ n, sumN f n ≤ n * B := by
  intro n
  induction n with
  | zero => exact Nat.zero_le _
  | succ n ih => rw [sumN, Nat.succ_mul]; have := h n; omega
def meas (v : MS) (s : SLt) : Nat := sumN (fun i => cntB (s.2 (5400 + i)) 49) (mN v)
theorem meas_le {v : MS} (hm : mOk v) (s : SLt) : meas v s ≤ 784 := by
  have h := sumN_le (f := fun i => cntB (s.2 (5400 + i)) 49) (B := 49) (fun i => cnt_le _ _) (mN v)
  have h16 := hm.1.1
  unfold meas
  omega
theorem force_ok {u : US} {v : MS} {k : Nat} (h : Rel u v) (hk : k < mB v) (h2 : m_look v k = 2) : Rel (wH u (d_forceH u (nI k))) (sL v (m_force (mL v) (600 + 16 * k + (m_op v k).getD 0))) ∧ meas v (m_force (mL v) (600 + 16 * k + (m_op v k).getD 0)) < meas v (mL v) := by
  obtain ⟨i, hi, e1, e2, e3⟩ := on_eq h hk h2
  obtain ⟨hm, hN, hT, hR, hC, hH, hG⟩ := h
  obtain ⟨⟨hh, hb⟩, -⟩ := hC.2 k hk
  have h16 := hm.1.1
  have hb6 := hm.1.2.1
  obtain ⟨s1, s2, s3, s4⟩ := (hb.2.2.1 i hi).2
  have ep := pl_eq hm hC hk hb hi
  rw [e1, Option.getD_some]
  generalize ht : 600 + 16 * k + i = t at *
  generalize hx : (mL v).1 t = x at *
  obtain ⟨c1, c2, c3, c4⟩ := hH x s2
  have hE := ev_PR hm hN s2
  have eF : d_forceH u (nI k) = vp_updL (uH u) x (uH u x &&& (n_ev (uN u) (nI x) ^^^ cP (uC u) (k * 16 + x))) := by
    rw [d_forceH, e2, if_neg (nI_ne_m1 (by omega)), d_narH, if_pos (by rw [hN.1]; exact hasIx_nI (by omega) s2), nI_clamp (by omega), ep]
  have eM : m_force (mL v) t = ((mL v).1, setU (mL v).2 (5400 + x) (fun b => (mL v).2 (5400 + x) b && !((mL v).2 t b)) 49) := by
    rw [m_force, hx]
  have hP : PR (uH u x &&& (n_ev (uN u) (nI x) ^^^ cP (uC u) (k * 16 + x))) (fun b => (mL v).2 (5400 + x) b && !((mL v).2 t b)) := fun b hb => by
    rw [bq_and, bq_xor, c3 b hb, hE b hb, s3 b hb]
    unfold rot fullR
    show _ = if b < 48 then ((mL v).2 (5400 + x) (b + 1) && !((mL v).2 t (b + 1))) else if b = 48 then ((mL v).2 (5400 + x) 0 && !((mL v).2 t 0)) else false
    by_cases q1 : b < 48
    · rw [if_pos q1, if_pos q1, if_pos q1, if_pos q1]
      by_cases q2 : b < mV v x
      · rw [decide_eq_true (show b + 1 ≤ mV v x by omega)]
        cases (mL v).2 (5400 + x) (b + 1) <;> cases (mL v).2 t (b + 1) <;> rfl
      · rw [c4 b (by omega) q1]; rfl
    · rw [if_neg q1, if_neg q1, if_neg q1, if_neg q1]
      by_cases q2 : b = 48
      · rw [if_pos q2, if_pos q2, if_pos q2, if_pos q2]
        rw [decide_eq_true (Nat.zero_le _)]
        cases (mL v).2 (5400 + x) 0 <;> cases (mL v).2 t 0 <;> rfl
      · rw [if_neg q2, if_neg q2, if_neg q2, if_neg q2]; rfl
  have hS : ∀ t', t' ≠ 5400 + x → Same (mL v) ((mL v).1, setU (mL v).2 (5400 + x) (fun b => (mL v).2 (5400 + x) b && !((mL v).2 t b)) 49) t' := fun t' ht' => ⟨rfl, by funext b; exact setU_out (mL v).2 (5400 + x) (fun b => (mL v).2 (5400 + x) b && !((mL v).2 t b)) 49 ht' b⟩
  rw [eF, eM]
  refine ⟨⟨mok_L hm hm.2.2.1, hN, relT_L hT (fun t ht => hS t (by omega)), hR, relC_L hm hC (fun t _ h2 => hS t (by omega)), ?_, hG⟩, ?_⟩
  · intro j hj
    show SlotR _ (5400 + j) j (vp_updL (uH u) x (uH u x &&& (n_ev (uN u) (nI x) ^^^ cP (uC u) (k * 16 + x))) j)
    by_cases e : j = x
    · subst e
      rw [show vp_updL (uH u) j (uH u j &&& (n_ev (uN u) (nI j) ^^^ cP (uC u) (k * 16 + j))) j = uH u j &&& (n_ev (uN u) (nI j) ^^^ cP (uC u) (k * 16 + j)) by simp [vp_updL]]
      have eq : ∀ b, b < 49 → ((mL v).2 (5400 + j) b && !((mL v).2 t b)) = setU (mL v).2 (5400 + j) (fun b => (mL v).2 (5400 + j) b && !((mL v).2 t b)) 49 (5400 + j) b := fun b hb => (setU_in (mL v).2 (5400 + j) (fun b => (mL v).2 (5400 + j) b && !((mL v).2 t b)) hb).symm
      refine ⟨c1, hj, hP.congr eq, ?_⟩
      have hv : Val (mV v j) (fun b => (mL v).2 (5400 + j) b && !((mL v).2 t b)) := fun b q1 q2 => by show ((mL v).2 (5400 + j) (b + 1) && !((mL v).2 t (b + 1))) = false; rw [c4 b q1 q2]; rfl
      exact hv.congr eq
    · rw [show vp_updL (uH u) x (uH u x &&& (n_ev (uN u) (nI x) ^^^ cP (uC u) (k * 16 + x))) j = uH u j by simp [vp_updL, e]]
      exact (hH j hj).mono (hS _ (by omega)).1 (hS _ (by omega)).2 (Nat.le_refl _) rfl
  · refine sumN_lt x s2 ?_ (fun j hj hne => ?_)
    · show cntB (setU (mL v).2 (5400 + x) (fun b => (mL v).2 (5400 + x) b && !((mL v).2 t b)) 49 (5400 + x)) 49 < cntB ((mL v).2 (5400 + x)) 49
      apply cnt_lt
      · intro b hb q
        rw [setU_in _ _ _ hb, Bool.and_eq_true] at q
        exact q.1
      · have hr : m_rel (mL v) (5400 + x) t = 0 := by rw [← hx]; exact e3
        unfold m_rel at hr
        by_cases q : anyB (fun b => (mL v).2 (5400 + x) b && (mL v).2 t b) 49 = false
        · rw [if_pos q] at hr; exact absurd hr (by decide)
        · obtain ⟨b, hb, e⟩ := any_iff.mp (show anyB (fun b => (mL v).2 (5400 + x) b && (mL v).2 t b) 49 = true by revert q; cases anyB (fun b => (mL v).2 (5400 + x) b && (mL v).2 t b) 49 <;> simp)
          rw [Bool.and_eq_true] at e
          exact ⟨b, hb, e.1, by rw [setU_in _ _ _ hb, e.2]; simp⟩
    · show cntB (setU (mL v).2 (5400 + x) (fun b => (mL v).2 (5400 + x) b && !((mL v).2 t b)) 49 (5400 + j)) 49 = cntB ((mL v).2 (5400 + j)) 49
      exact cnt_congr (fun b _ => setU_out _ _ _ _ (by omega) b)
theorem fk_eq {u : US} {v : MS} (h : Rel u v) : d_fk u = m_fk v := by
  unfold d_fk m_fk
  rw [h.2.2.2.2.1.1]
  rw [fnd_congr _ _ (fun a _ ha => by rw [st_eq h (show a < mB v by omega)])]
theorem spi_ok (u : US) (v : MS) : ∀ (n k : Nat) (f : Bool) (h : Nat → Int64) (s : SLt), Rel (wH u h) (sL v s) → k + n ≤ mB v → (d_spi u n k (bI f) h).1 = (m_spi v n k f s).1 ∧ (d_spi u n k (bI f) h).2.1 = bI (m_spi v n k f s).2.1 ∧ Rel (wH u (d_spi u n k (bI f) h).2.2) (sL v (m_spi v n k f s).2.2) ∧ meas v (m_spi v n k f s).2.2 ≤ meas v s ∧ ((m_spi v n k f s).2.1 = true → f = true ∨ meas v (m_spi v n k f s).2.2 < meas v s) := by
  intro n
  induction n with
  | zero => intro k f h s hR _; exact ⟨rfl, rfl, hR, Nat.le_refl _, fun q => Or.inl q⟩
  | succ n ih =>
    intro k f h s hR hk
    have hk1 : k < mB (sL v s) := by show k < mB v; omega
    have es := st_eq hR hk1
    rw [d_spi, m_spi, es]
    by_cases c1 : m_look (sL v s) k = 1
    · rw [if_pos c1, if_pos c1, fk_eq hR]
      exact ⟨rfl, rfl, hR, Nat.le_refl _, fun q => Or.inl q⟩
    · rw [if_neg c1, if_neg c1]
      by_cases c2 : m_look (sL v s) k = 2
      · rw [if_pos c2, if_pos c2]
        obtain ⟨r1, r2⟩ := force_ok hR hk1 c2
        have r2 : meas v (m_force s (600 + 16 * k + (m_op (sL v s) k).getD 0)) < meas v s := r2
        obtain ⟨a1, a2, a3, a4, a5⟩ := ih (k + 1) true _ _ r1 (by omega)
        exact ⟨a1, a2, a3, Nat.le_of_lt (Nat.lt_of_le_of_lt a4 r2), fun _ => Or.inr (Nat.lt_of_le_of_lt a4 r2)⟩
      · rw [if_neg c2, if_neg c2]
        exact ih (k + 1) f h s hR (by omega)
theorem spo_ok (u : US) (v : MS) : ∀ (n : Nat) (f : Bool) (h : Nat → Int64) (s : SLt), Rel (wH u h) (sL v s) → (f = true → meas v s < n) → ∃ s9, m_spo v (n + 1) f s = some ((d_spo u n (bI f) h).1, s9) ∧ Rel (wH u (d_spo u n (bI f) h).2) (sL v s9) := by
  intro n
  induction n with
  | zero =>
    intro f h s hR hf
    cases f with
    | true => exact absurd (hf rfl) (Nat.not_lt_zero _)
    | false => exact ⟨s, rfl, hR⟩
  | succ n ih =>
    intro f h s hR hf
    cases f with
    | false => exact ⟨s, rfl, hR⟩
    | true =>
      have hm := hf rfl
      have hB : (uC u).1 = mB v := hR.2.2.2.2.1.1
      obtain ⟨a1, a2, a3, a4, a5⟩ := spi_ok u v (mB v) 0 false h s hR (by omega)
      rw [d_spo, if_neg (show ¬ bI true = 0 by decide), m_spo, if_neg (by decide), hB]
      rw [show bI false = (0 : Int32) from rfl] at a1 a2 a3
      generalize d_spi u (mB v) 0 0 h = dd at a1 a2 a3 ⊢
      generalize m_spi v (mB v) 0 false s = mm at a1 a2 a3 a4 a5 ⊢
      obtain ⟨o, f1, h1⟩ := dd
      obtain ⟨o', f1', s1⟩ := mm
      have a1 : o = o' := a1
      have a2 : f1 = bI f1' := a2
      subst a1 a2
      cases o with
      | some r => exact ⟨s1, rfl, a3⟩
      | none => exact ih f1' h1 s1 a3 (fun q => by
          rcases a5 q with b | b
          · cases b
          · exact Nat.lt_of_lt_of_le b (Nat.lt_succ_iff.mp hm))
theorem rel_spread : H_spread Rel := fun u v h => by
  have := meas_le h.1 (mL v)
  obtain ⟨s9, e, r⟩ := spo_ok u v 785 true (uH u) (mL v) h (fun _ => by omega)
  exact ⟨786, s9, e, r⟩
