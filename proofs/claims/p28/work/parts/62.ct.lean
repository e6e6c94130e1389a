/-! the class's contracts over its steps -/
/-- the heap holds the object x in the state σ -/
def HD (Γ : GA) (x : Nat) (σ : ST) (h : Hp) : Prop :=
  ∃ (ad : XK → Nat) (tr : PiS) (c2 : Nat) (f2 : Int → Int), ad (0, 0) = x ∧ c2 ≤ 8 ∧ (∀ i, -1000000 ≤ f2 i ∧ f2 i ≤ 1000000) ∧ IX (gEm Γ) ad σ.1 σ.2.1 (σ.2.2.1.1, σ.2.2.1.2.1, σ.2.2.1.2.2, tr, c2, f2) σ.2.2.2.1 ∧ h = HX (gEm Γ) ad σ.1 σ.2.1 (σ.2.2.1.1, σ.2.2.1.2.1, σ.2.2.1.2.2, tr, c2, f2) σ.2.2.2.1 ∧ WF σ
theorem HD.wf {Γ : GA} {x : Nat} {σ : ST} {h : Hp} (H : HD Γ x σ h) : WF σ := by
  obtain ⟨ad, tr, c2, f2, h1, h2, h3, h4, h5, h6⟩ := H
  exact h6
theorem HD.obj {Γ : GA} {x : Nat} {σ : ST} {h : Hp} (H : HD Γ x σ h) : ∃ fs : List Value, h x = some (oO 5 fs) := by
  obtain ⟨ad, tr, c2, f2, h1, h2, h3, h4, h5, h6⟩ := H
  rw [h5, ← h1]
  exact ⟨_, hx_0 h4⟩
/-- what is thrown, by its code -/
def xcd (E : String) (r : Int) : Prop := (E = "java/lang/IndexOutOfBoundsException" ∧ r = eI) ∨ (E = "java/lang/IllegalArgumentException" ∧ r = eA) ∨ (E = "java/lang/IllegalStateException" ∧ r = eS)
/-- a call answers as the step says, or throws its code -/
def HC (l : Launch) (Γ : GA) (M : MD) (As : List Value) (x : Nat) (σ : ST) (h : Hp) (s : Int × ST) : Prop :=
  Ct l Γ M As h (fun v h' => v = some (iv s.1) ∧ HD Γ x s.2 h') (fun E h' => xcd E s.1 ∧ HD Γ x s.2 h')
theorem xcI : xcd "java/lang/IndexOutOfBoundsException" eI := Or.inl ⟨rfl, rfl⟩
theorem xcA : xcd "java/lang/IllegalArgumentException" eA := Or.inr (Or.inl ⟨rfl, rfl⟩)
theorem xcS : xcd "java/lang/IllegalStateException" eS := Or.inr (Or.inr ⟨rfl, rfl⟩)
section HCs
variable {l : Launch} {Γ : GA} {x : Nat} {σ : ST} {h : Hp}

theorem h_tune (hfl : l.stackTraces = false) (H : HD Γ x σ h) {z : Int} (hz : -2147483648 ≤ z ∧ z ≤ 2147483647) : HC l Γ m_X4_tune [.ref x, iv z] x σ h (sTune σ z) := by
  obtain ⟨ad, tr, c2, f2, rfl, hc2, hf2, I, rfl, wf⟩ := H
  refine Ct.mono (x_tune hfl I wf.1.1 wf.ss hz) ?_ ?_
  · rintro v h' ⟨e0, ⟨c1, c3⟩, ad2, e1, I2, e2⟩
    have w : WF (sTune σ z).2 := wf_tune wf
    unfold sTune at w ⊢
    rw [if_pos c1, if_pos c3] at w ⊢
    exact ⟨e0, ad2, tr, c2, f2, e1 _ (by intro z; cases z), hc2, hf2, I2, e2, w⟩
  · rintro E h' ⟨rfl, ⟨rfl, k1⟩ | ⟨rfl, k1, k2⟩⟩
    all_goals unfold sTune
    · rw [if_neg k1]; exact ⟨xcA, ⟨ad, tr, c2, f2, rfl, hc2, hf2, I, rfl, wf⟩⟩
    · rw [if_pos k1, if_neg k2]; exact ⟨xcS, ⟨ad, tr, c2, f2, rfl, hc2, hf2, I, rfl, wf⟩⟩

theorem h_note (hfl : l.stackTraces = false) (H : HD Γ x σ h) {t : Int} (ht : -2147483648 ≤ t ∧ t ≤ 2147483647) {a : Int} (ha : -2147483648 ≤ a ∧ a ≤ 2147483647) {b : Int} (hb : -2147483648 ≤ b ∧ b ≤ 2147483647) {g : Int} (hg : -2147483648 ≤ g ∧ g ≤ 2147483647) : HC l Γ m_X4_note [.ref x, iv t, iv a, iv b, iv g] x σ h (sNote σ t a b g) := by
  obtain ⟨ad, tr, c2, f2, rfl, hc2, hf2, I, rfl, wf⟩ := H
  refine Ct.mono (x_note hfl I wf.1.1 wf.T ht ha hb hg) ?_ ?_
  · rintro v h' ⟨e0, ⟨k1, k2, k3⟩, e2⟩
    have w : WF (sNote σ t a b g).2 := wf_note wf
    unfold sNote at w ⊢
    rw [if_pos (show inT σ t from k1), if_pos (show rgNote a b g from k2), if_pos (show okNote (gT σ t) a b g from k3)] at w ⊢
    exact ⟨e0, ad, tr, c2, f2, rfl, hc2, hf2, IX_tuS I, e2, w⟩
  · rintro E h' ⟨rfl, ⟨rfl, k1⟩ | ⟨rfl, k1, k2⟩ | ⟨rfl, k1, k2, k3⟩⟩
    all_goals unfold sNote
    · rw [if_neg (show ¬ inT σ t from k1)]; exact ⟨xcI, ⟨ad, tr, c2, f2, rfl, hc2, hf2, I, rfl, wf⟩⟩
    · rw [if_pos (show inT σ t from k1), if_neg (show ¬ rgNote a b g from k2)]; exact ⟨xcA, ⟨ad, tr, c2, f2, rfl, hc2, hf2, I, rfl, wf⟩⟩
    · rw [if_pos (show inT σ t from k1), if_pos (show rgNote a b g from k2), if_neg (show ¬ okNote (gT σ t) a b g from k3)]; exact ⟨xcS, ⟨ad, tr, c2, f2, rfl, hc2, hf2, I, rfl, wf⟩⟩

theorem h_part (hfl : l.stackTraces = false) (H : HD Γ x σ h) {t : Int} (ht : -2147483648 ≤ t ∧ t ≤ 2147483647) {rep : Int} (hrep : rep = 0 ∨ rep = 1) : HC l Γ m_X4_part [.ref x, iv t, iv rep] x σ h (sPart σ t rep) := by
  obtain ⟨ad, tr, c2, f2, rfl, hc2, hf2, I, rfl, wf⟩ := H
  refine Ct.mono (x_part hfl I wf.1.1 wf.T ht hrep) ?_ ?_
  · rintro v h' ⟨e0, ⟨k1, k2⟩, e2⟩
    have w : WF (sPart σ t rep).2 := wf_part wf
    unfold sPart at w ⊢
    rw [if_pos (show inT σ t from k1), if_pos (show okPart (gT σ t) from k2)] at w ⊢
    exact ⟨e0, ad, tr, c2, f2, rfl, hc2, hf2, IX_tuS I, e2, w⟩
  · rintro E h' ⟨rfl, ⟨rfl, k1⟩ | ⟨rfl, k1, k2⟩⟩
    all_goals unfold sPart
    · rw [if_neg (show ¬ inT σ t from k1)]; exact ⟨xcI, ⟨ad, tr, c2, f2, rfl, hc2, hf2, I, rfl, wf⟩⟩
    · rw [if_pos (show inT σ t from k1), if_neg (show ¬ okPart (gT σ t) from k2)]; exact ⟨xcS, ⟨ad, tr, c2, f2, rfl, hc2, hf2, I, rfl, wf⟩⟩

theorem h_played (hfl : l.stackTraces = false) (H : HD Γ x σ h) {t : Int} (ht : -2147483648 ≤ t ∧ t ≤ 2147483647) {p : Int} (hp : -2147483648 ≤ p ∧ p ≤ 2147483647) {w : Int} (hw : -2147483648 ≤ w ∧ w ≤ 2147483647) : HC l Γ m_X4_played [.ref x, iv t, iv p, iv w] x σ h (sPlayed σ t p w) := by
  obtain ⟨ad, tr, c2, f2, rfl, hc2, hf2, I, rfl, wf⟩ := H
  refine Ct.mono (x_played hfl I wf.1.1 wf.T ht hp hw) ?_ ?_
  · rintro v h' ⟨e0, ⟨k1, k2, k3⟩, rfl⟩
    unfold sPlayed
    rw [if_pos (show inT σ t from k1), if_pos (show 0 ≤ p ∧ p < tPl (gT σ t) from k2), if_pos k3]
    exact ⟨e0, ⟨ad, tr, c2, f2, rfl, hc2, hf2, I, rfl, wf⟩⟩
  · rintro E h' ⟨rfl, ⟨rfl, k1⟩ | ⟨rfl, k1, k2, k3⟩⟩
    all_goals unfold sPlayed
    · rcases k1 with k1 | ⟨k1, k2⟩
      · rw [if_neg (show ¬ inT σ t from k1)]; exact ⟨xcI, ⟨ad, tr, c2, f2, rfl, hc2, hf2, I, rfl, wf⟩⟩
      · rw [if_pos (show inT σ t from k1), if_neg (show ¬ (0 ≤ p ∧ p < tPl (gT σ t)) from k2)]; exact ⟨xcI, ⟨ad, tr, c2, f2, rfl, hc2, hf2, I, rfl, wf⟩⟩
    · rw [if_pos (show inT σ t from k1), if_pos (show 0 ≤ p ∧ p < tPl (gT σ t) from k2), if_neg k3]; exact ⟨xcA, ⟨ad, tr, c2, f2, rfl, hc2, hf2, I, rfl, wf⟩⟩

theorem h_ofTune (hfl : l.stackTraces = false) (H : HD Γ x σ h) {t : Int} (ht : -2147483648 ≤ t ∧ t ≤ 2147483647) {w : Int} (hw : -2147483648 ≤ w ∧ w ≤ 2147483647) : HC l Γ m_X4_ofTune [.ref x, iv t, iv w] x σ h (sOfTune σ t w) := by
  obtain ⟨ad, tr, c2, f2, rfl, hc2, hf2, I, rfl, wf⟩ := H
  refine Ct.mono (x_ofTune hfl I wf.1.1 wf.T ht hw) ?_ ?_
  · rintro v h' ⟨e0, ⟨k1, k2⟩, rfl⟩
    unfold sOfTune
    rw [if_pos (show inT σ t from k1), if_pos k2]
    exact ⟨e0, ⟨ad, tr, c2, f2, rfl, hc2, hf2, I, rfl, wf⟩⟩
  · rintro E h' ⟨rfl, ⟨rfl, k1⟩ | ⟨rfl, k1, k2⟩⟩
    all_goals unfold sOfTune
    · rw [if_neg (show ¬ inT σ t from k1)]; exact ⟨xcI, ⟨ad, tr, c2, f2, rfl, hc2, hf2, I, rfl, wf⟩⟩
    · rw [if_pos (show inT σ t from k1), if_neg k2]; exact ⟨xcA, ⟨ad, tr, c2, f2, rfl, hc2, hf2, I, rfl, wf⟩⟩

theorem h_alike (hfl : l.stackTraces = false) (H : HD Γ x σ h) {t : Int} (ht : -2147483648 ≤ t ∧ t ≤ 2147483647) {u : Int} (hu : -2147483648 ≤ u ∧ u ≤ 2147483647) : HC l Γ m_X4_alike [.ref x, iv t, iv u] x σ h (sAlike σ t u) := by
  obtain ⟨ad, tr, c2, f2, rfl, hc2, hf2, I, rfl, wf⟩ := H
  refine Ct.mono (x_alike hfl I wf.1.1 wf.T ht hu) ?_ ?_
  · rintro v h' ⟨m, e0, k0, k1, rfl⟩
    unfold sAlike
    rw [if_pos (show inT σ t ∧ inT σ u from k1), ← isAlike_one k0 (vAlike_is σ t u)]
    exact ⟨e0, ⟨ad, tr, c2, f2, rfl, hc2, hf2, I, rfl, wf⟩⟩
  · rintro E h' ⟨rfl, rfl, k1⟩
    unfold sAlike
    rw [if_neg (show ¬ (inT σ t ∧ inT σ u) from k1)]
    exact ⟨xcI, ⟨ad, tr, c2, f2, rfl, hc2, hf2, I, rfl, wf⟩⟩

theorem h_alikeAnew (hfl : l.stackTraces = false) (H : HD Γ x σ h) {t : Int} (ht : -2147483648 ≤ t ∧ t ≤ 2147483647) {u : Int} (hu : -2147483648 ≤ u ∧ u ≤ 2147483647) : HC l Γ m_X4_alikeAnew [.ref x, iv t, iv u] x σ h (sAlike σ t u) := by
  obtain ⟨ad, tr, c2, f2, rfl, hc2, hf2, I, rfl, wf⟩ := H
  refine Ct.mono (x_alikeAnew hfl I wf.1.1 wf.T ht hu) ?_ ?_
  · rintro v h' ⟨m, e0, k0, k1, rfl⟩
    unfold sAlike
    rw [if_pos (show inT σ t ∧ inT σ u from k1), ← isAlike_one k0 (vAlike_is σ t u)]
    exact ⟨e0, ⟨ad, tr, c2, f2, rfl, hc2, hf2, I, rfl, wf⟩⟩
  · rintro E h' ⟨rfl, rfl, k1⟩
    unfold sAlike
    rw [if_neg (show ¬ (inT σ t ∧ inT σ u) from k1)]
    exact ⟨xcI, ⟨ad, tr, c2, f2, rfl, hc2, hf2, I, rfl, wf⟩⟩

theorem h_follow (hfl : l.stackTraces = false) (H : HD Γ x σ h) {t : Int} (ht : -2147483648 ≤ t ∧ t ≤ 2147483647) {tp : Int} (htp : -2147483648 ≤ tp ∧ tp ≤ 2147483647) : HC l Γ m_X4_follow [.ref x, iv t, iv tp] x σ h (sFollow σ t tp) := by
  obtain ⟨ad, tr, c2, f2, rfl, hc2, hf2, I, rfl, wf⟩ := H
  refine Ct.mono (x_follow hfl I wf.1.1 wf.T wf.2.1 ht htp) ?_ ?_
  · rintro v h' ⟨e0, ⟨k1, k2, k3⟩, ad2, e1, I2, e2⟩
    have w : WF (sFollow σ t tp).2 := wf_follow wf
    unfold sFollow at w ⊢
    rw [if_pos (show inT σ t from k1), if_pos k2, if_pos (show okFol σ t tp from k3)] at w ⊢
    exact ⟨e0, ad2, tr, c2, f2, e1 _ (by intro z; cases z), hc2, hf2, I2, e2, w⟩
  · rintro E h' ⟨rfl, ⟨rfl, k1⟩ | ⟨rfl, k1, k2⟩ | ⟨rfl, k1, k2, k3⟩⟩
    all_goals unfold sFollow
    · rw [if_neg (show ¬ inT σ t from k1)]; exact ⟨xcI, ⟨ad, tr, c2, f2, rfl, hc2, hf2, I, rfl, wf⟩⟩
    · rw [if_pos (show inT σ t from k1), if_neg k2]; exact ⟨xcA, ⟨ad, tr, c2, f2, rfl, hc2, hf2, I, rfl, wf⟩⟩
    · rw [if_pos (show inT σ t from k1), if_pos k2, if_neg (show ¬ okFol σ t tp from k3)]; exact ⟨xcS, ⟨ad, tr, c2, f2, rfl, hc2, hf2, I, rfl, wf⟩⟩

theorem h_drop (hfl : l.stackTraces = false) (H : HD Γ x σ h)  : HC l Γ m_X4_drop [.ref x] x σ h (sDrop σ) := by
  obtain ⟨ad, tr, c2, f2, rfl, hc2, hf2, I, rfl, wf⟩ := H
  refine Ct.mono (x_drop hfl I wf.1.1 wf.T wf.2.1) ?_ ?_
  · rintro v h' ⟨e0, k1, e2⟩
    have w : WF (sDrop σ).2 := wf_drop wf
    unfold sDrop at w ⊢
    rw [if_pos k1] at w ⊢
    exact ⟨e0, ad, tr, c2, f2, rfl, hc2, hf2, IX_drop I, e2, w⟩
  · rintro E h' ⟨rfl, rfl, k1⟩
    unfold sDrop
    rw [if_neg k1]
    exact ⟨xcS, ⟨ad, tr, c2, f2, rfl, hc2, hf2, I, rfl, wf⟩⟩

theorem h_piper (hfl : l.stackTraces = false) (H : HD Γ x σ h) {a : Int} (ha : -2147483648 ≤ a ∧ a ≤ 2147483647) {b : Int} (hb : -2147483648 ≤ b ∧ b ≤ 2147483647) {e : Int} (he : -2147483648 ≤ e ∧ e ≤ 2147483647) : HC l Γ m_X4_piper [.ref x, iv a, iv b, iv e] x σ h (sPiper σ a b e) := by
  obtain ⟨ad, tr, c2, f2, rfl, hc2, hf2, I, rfl, wf⟩ := H
  refine Ct.mono (x_piper hfl I wf.2.2.1.1 wf.ss ha hb he) ?_ ?_
  · rintro v h' ⟨e0, ⟨c1, c3⟩, ad2, e1, I2, e2⟩
    have w : WF (sPiper σ a b e).2 := wf_piper wf
    unfold sPiper at w ⊢
    rw [if_pos (show rgPip a b e from c1), if_pos (show σ.2.2.1.1 < 8 from c3)] at w ⊢
    exact ⟨e0, ad2, tr, c2, f2, e1 _ (by intro z; cases z), hc2, hf2, I2, e2, w⟩
  · rintro E h' ⟨rfl, ⟨rfl, k1⟩ | ⟨rfl, k1, k2⟩⟩
    all_goals unfold sPiper
    · rw [if_neg (show ¬ rgPip a b e from k1)]; exact ⟨xcA, ⟨ad, tr, c2, f2, rfl, hc2, hf2, I, rfl, wf⟩⟩
    · rw [if_pos (show rgPip a b e from k1), if_neg (show ¬ σ.2.2.1.1 < 8 from k2)]; exact ⟨xcS, ⟨ad, tr, c2, f2, rfl, hc2, hf2, I, rfl, wf⟩⟩

theorem h_seat (hfl : l.stackTraces = false) (H : HD Γ x σ h) {p : Int} (hp : -2147483648 ≤ p ∧ p ≤ 2147483647) {b : Int} (hb : -2147483648 ≤ b ∧ b ≤ 2147483647) : HC l Γ m_X4_seat [.ref x, iv p, iv b] x σ h (sSeat σ p b) := by
  obtain ⟨ad, tr, c2, f2, rfl, hc2, hf2, I, rfl, wf⟩ := H
  refine Ct.mono (x_seat hfl I wf.2.2.1.1 wf.2.2.1.2 hp hb) ?_ ?_
  · rintro v h' ⟨e0, ⟨k1, k2, k3⟩, e2⟩
    have w : WF (sSeat σ p b).2 := wf_seat wf
    unfold sSeat at w ⊢
    rw [if_pos (show inP σ p from k1), if_pos (show rgSeat (gP σ p) b from ⟨k2, k3⟩)] at w ⊢
    exact ⟨e0, ad, tr, c2, f2, rfl, hc2, hf2, IX_P I, e2, w⟩
  · rintro E h' ⟨rfl, ⟨rfl, k1⟩ | ⟨rfl, k1, k2⟩⟩
    all_goals unfold sSeat
    · rw [if_neg (show ¬ inP σ p from k1)]; exact ⟨xcI, ⟨ad, tr, c2, f2, rfl, hc2, hf2, I, rfl, wf⟩⟩
    · rw [if_pos (show inP σ p from k1), if_neg (show ¬ rgSeat (gP σ p) b from k2)]; exact ⟨xcA, ⟨ad, tr, c2, f2, rfl, hc2, hf2, I, rfl, wf⟩⟩

theorem h_rest (hfl : l.stackTraces = false) (H : HD Γ x σ h) {p : Int} (hp : -2147483648 ≤ p ∧ p ≤ 2147483647) {b : Int} (hb : b = 0 ∨ b = 1) : HC l Γ m_X4_rest [.ref x, iv p, iv b] x σ h (sRest σ p b) := by
  obtain ⟨ad, tr, c2, f2, rfl, hc2, hf2, I, rfl, wf⟩ := H
  refine Ct.mono (x_rest hfl I wf.2.2.1.1 wf.2.2.1.2 hp hb) ?_ ?_
  · rintro v h' ⟨e0, k1, e2⟩
    have w : WF (sRest σ p b).2 := wf_rest wf hb
    unfold sRest at w ⊢
    rw [if_pos (show inP σ p from k1)] at w ⊢
    exact ⟨e0, ad, tr, c2, f2, rfl, hc2, hf2, IX_P I, e2, w⟩
  · rintro E h' ⟨rfl, rfl, k1⟩
    unfold sRest
    rw [if_neg (show ¬ inP σ p from k1)]
    exact ⟨xcI, ⟨ad, tr, c2, f2, rfl, hc2, hf2, I, rfl, wf⟩⟩

theorem h_play (hfl : l.stackTraces = false) (H : HD Γ x σ h) {m : Int} (hm : -2147483648 ≤ m ∧ m ≤ 2147483647) {r : Int} (hr : -2147483648 ≤ r ∧ r ≤ 2147483647) {t : Int} (ht : -2147483648 ≤ t ∧ t ≤ 2147483647) : HC l Γ m_X4_play [.ref x, iv m, iv r, iv t] x σ h (sPlay σ m r t) := by
  obtain ⟨ad, tr, c2, f2, rfl, hc2, hf2, I, rfl, wf⟩ := H
  refine Ct.mono (x_play hfl I wf.2.2.1.1 wf.2.2.1.2 hf2 hc2 hm hr ht) ?_ ?_
  · rintro v h' ⟨e0, k1, c3, f3, hc3, hf3, e2⟩
    have w : WF (sPlay σ m r t).2 := wf_play wf
    unfold sPlay at w ⊢
    rw [if_pos k1] at w ⊢
    exact ⟨e0, ad, tr, c3, f3, rfl, hc3, hf3, IX_P I, e2, w⟩
  · rintro E h' ⟨rfl, rfl, k1⟩
    unfold sPlay
    rw [if_neg k1]
    exact ⟨xcA, ⟨ad, tr, c2, f2, rfl, hc2, hf2, I, rfl, wf⟩⟩

theorem h_ofPiper (hfl : l.stackTraces = false) (H : HD Γ x σ h) {p : Int} (hp : -2147483648 ≤ p ∧ p ≤ 2147483647) {w : Int} (hw : -2147483648 ≤ w ∧ w ≤ 2147483647) : HC l Γ m_X4_ofPiper [.ref x, iv p, iv w] x σ h (sOfPip σ p w) := by
  obtain ⟨ad, tr, c2, f2, rfl, hc2, hf2, I, rfl, wf⟩ := H
  refine Ct.mono (x_ofPiper hfl I wf.2.2.1.1 wf.2.2.1.2 hf2 hc2 hp hw) ?_ ?_
  · rintro v h' ⟨e0, ⟨k1, k2⟩, c3, f3, hc3, hf3, e2⟩
    unfold sOfPip
    rw [if_pos (show inP σ p from k1), if_pos k2]
    exact ⟨e0, ad, tr, c3, f3, rfl, hc3, hf3, IX_P I, e2, wf⟩
  · rintro E h' ⟨rfl, ⟨rfl, k1⟩ | ⟨rfl, k1, k2⟩⟩
    all_goals unfold sOfPip
    · rw [if_neg (show ¬ inP σ p from k1)]; exact ⟨xcI, ⟨ad, tr, c2, f2, rfl, hc2, hf2, I, rfl, wf⟩⟩
    · rw [if_pos (show inP σ p from k1), if_neg k2]; exact ⟨xcA, ⟨ad, tr, c2, f2, rfl, hc2, hf2, I, rfl, wf⟩⟩

theorem h_spread (hfl : l.stackTraces = false) (H : HD Γ x σ h)  : HC l Γ m_X4_spread [.ref x] x σ h (sSpread σ) := by
  obtain ⟨ad, tr, c2, f2, rfl, hc2, hf2, I, rfl, wf⟩ := H
  refine Ct.mono (x_spread hfl I wf.2.2.1.1 wf.2.2.1.2 hf2) ?_ ?_
  · rintro v h' ⟨e0, c3, f3, hc3, hf3, e2⟩
    exact ⟨e0, ad, tr, c3, f3, rfl, hc3, hf3, IX_P I, e2, wf⟩
  · rintro E h' z
    exact z.elim

theorem h_odd (hfl : l.stackTraces = false) (H : HD Γ x σ h)  : HC l Γ m_X4_odd [.ref x] x σ h (sOdd σ) := by
  obtain ⟨ad, tr, c2, f2, rfl, hc2, hf2, I, rfl, wf⟩ := H
  refine Ct.mono (x_odd hfl I wf.2.2.1.1 wf.2.2.1.2 hf2) ?_ ?_
  · rintro v h' ⟨e0, c3, f3, hc3, hf3, e2⟩
    exact ⟨e0, ad, tr, c3, f3, rfl, hc3, hf3, IX_P I, e2, wf⟩
  · rintro E h' z
    exact z.elim

theorem h_ahead (hfl : l.stackTraces = false) (H : HD Γ x σ h) {m : Int} (hm : -2147483648 ≤ m ∧ m ≤ 2147483647) {r : Int} (hr : -2147483648 ≤ r ∧ r ≤ 2147483647) {t : Int} (ht : -2147483648 ≤ t ∧ t ≤ 2147483647) : HC l Γ m_X4_ahead [.ref x, iv m, iv r, iv t] x σ h (sAhead σ m r t) := by
  obtain ⟨ad, tr, c2, f2, rfl, hc2, hf2, I, rfl, wf⟩ := H
  refine Ct.mono (x_ahead hfl I wf.2.2.1.1 wf.2.2.1.2 hf2 hm hr ht) ?_ ?_
  · rintro v h' ⟨e0, k1, tr3, c3, f3, hc3, hf3, e2⟩
    unfold sAhead
    rw [if_pos k1]
    exact ⟨e0, ad, tr3, c3, f3, rfl, hc3, hf3, IX_P I, e2, wf⟩
  · rintro E h' ⟨rfl, rfl, k1⟩
    unfold sAhead
    rw [if_neg k1]
    exact ⟨xcA, ⟨ad, tr, c2, f2, rfl, hc2, hf2, I, rfl, wf⟩⟩

theorem h_band (hfl : l.stackTraces = false) (H : HD Γ x σ h) {z : Int} (hz : -2147483648 ≤ z ∧ z ≤ 2147483647) : HC l Γ m_X4_band [.ref x, iv z] x σ h (sBand σ z) := by
  obtain ⟨ad, tr, c2, f2, rfl, hc2, hf2, I, rfl, wf⟩ := H
  refine Ct.mono (x_band hfl I wf.2.2.2.1 wf.ss hz) ?_ ?_
  · rintro v h' ⟨e0, ⟨c1, c3⟩, ad2, e1, I2, e2⟩
    have w : WF (sBand σ z).2 := wf_band wf
    unfold sBand at w ⊢
    rw [if_pos c1, if_pos c3] at w ⊢
    exact ⟨e0, ad2, tr, c2, f2, e1 _ (by intro z; cases z), hc2, hf2, I2, e2, w⟩
  · rintro E h' ⟨rfl, ⟨rfl, k1⟩ | ⟨rfl, k1, k2⟩⟩
    all_goals unfold sBand
    · rw [if_neg k1]; exact ⟨xcA, ⟨ad, tr, c2, f2, rfl, hc2, hf2, I, rfl, wf⟩⟩
    · rw [if_pos k1, if_neg k2]; exact ⟨xcS, ⟨ad, tr, c2, f2, rfl, hc2, hf2, I, rfl, wf⟩⟩

theorem h_contest (hfl : l.stackTraces = false) (H : HD Γ x σ h) {g : Int} (hg : -2147483648 ≤ g ∧ g ≤ 2147483647) : HC l Γ m_X4_contest [.ref x, iv g] x σ h (sContest σ g) := by
  obtain ⟨ad, tr, c2, f2, rfl, hc2, hf2, I, rfl, wf⟩ := H
  refine Ct.mono (x_contest hfl I wf.2.2.2.1 wf.B wf.2.2.2.op hg) ?_ ?_
  · rintro v h' ⟨e0, ⟨k1, k2⟩, e2⟩
    have w : WF (sContest σ g).2 := wf_contest wf
    unfold sContest at w ⊢
    rw [if_pos k1, if_neg (show ¬ (opB σ = 1 ∨ cOg (fB σ) g (nB σ) < 2) from k2)] at w ⊢
    exact ⟨e0, ad, tr, c2, f2, rfl, hc2, hf2, IX_B I, e2, w⟩
  · rintro E h' ⟨rfl, ⟨rfl, k1⟩ | ⟨rfl, k1, k2⟩⟩
    all_goals unfold sContest
    · rw [if_neg k1]; exact ⟨xcA, ⟨ad, tr, c2, f2, rfl, hc2, hf2, I, rfl, wf⟩⟩
    · rw [if_pos k1, if_pos (show opB σ = 1 ∨ cOg (fB σ) g (nB σ) < 2 from k2)]; exact ⟨xcS, ⟨ad, tr, c2, f2, rfl, hc2, hf2, I, rfl, wf⟩⟩

theorem h_mark (hfl : l.stackTraces = false) (H : HD Γ x σ h) {j : Int} (hj : -2147483648 ≤ j ∧ j ≤ 2147483647) {b : Int} (hb : -2147483648 ≤ b ∧ b ≤ 2147483647) {m : Int} (hm : -2147483648 ≤ m ∧ m ≤ 2147483647) : HC l Γ m_X4_mark [.ref x, iv j, iv b, iv m] x σ h (sMark σ j b m) := by
  obtain ⟨ad, tr, c2, f2, rfl, hc2, hf2, I, rfl, wf⟩ := H
  refine Ct.mono (x_mark hfl I wf.2.2.2.1 wf.B wf.2.2.2.op hj hb hm) ?_ ?_
  · rintro v h' ⟨e0, ⟨k1, k2, k3⟩, e2⟩
    have w : WF (sMark σ j b m).2 := wf_mark wf
    unfold sMark at w ⊢
    rw [if_pos (show (0 ≤ j ∧ j ≤ 3) ∧ inB σ b from k1), if_pos k2, if_pos (show okMark σ j b from k3)] at w ⊢
    exact ⟨e0, ad, tr, c2, f2, rfl, hc2, hf2, IX_B I, e2, w⟩
  · rintro E h' ⟨rfl, ⟨rfl, k1⟩ | ⟨rfl, k1, k2⟩ | ⟨rfl, k1, k2, k3⟩⟩
    all_goals unfold sMark
    · rw [if_neg (show ¬ ((0 ≤ j ∧ j ≤ 3) ∧ inB σ b) from k1)]; exact ⟨xcI, ⟨ad, tr, c2, f2, rfl, hc2, hf2, I, rfl, wf⟩⟩
    · rw [if_pos (show (0 ≤ j ∧ j ≤ 3) ∧ inB σ b from k1), if_neg k2]; exact ⟨xcA, ⟨ad, tr, c2, f2, rfl, hc2, hf2, I, rfl, wf⟩⟩
    · rw [if_pos (show (0 ≤ j ∧ j ≤ 3) ∧ inB σ b from k1), if_pos k2, if_neg (show ¬ okMark σ j b from k3)]; exact ⟨xcS, ⟨ad, tr, c2, f2, rfl, hc2, hf2, I, rfl, wf⟩⟩

theorem wf_cl {σ : ST} (wf : WF σ) (hc : σ.2.2.2.2 ≤ 10000) : ∀ i, i < nB σ → baOk (fB σ i) ∧ bPo (fB σ i) ≤ 90000 ∧ bFi (fB σ i) ≤ 90000 := by
  intro i hi
  obtain ⟨y1, y2, y3, y4⟩ := wf.2.2.2.2.1 i hi
  have y3' : bPo (fB σ i) ≤ 6 * (σ.2.2.2.2 : Int) := y3
  have y4' : bFi (fB σ i) ≤ (σ.2.2.2.2 : Int) := y4
  exact ⟨y1, by omega, by omega⟩

theorem h_close (hfl : l.stackTraces = false) (H : HD Γ x σ h) (hc : σ.2.2.2.2 ≤ 10000) : HC l Γ m_X4_close [.ref x] x σ h (sClose σ) := by
  obtain ⟨ad, tr, c2, f2, rfl, hc2, hf2, I, rfl, wf⟩ := H
  refine Ct.mono (x_close hfl I wf.2.2.2.1 (wf_cl wf hc) wf.2.2.2.op wf.2.2.2.mm) ?_ ?_
  · rintro v h' ⟨e0, k1, e2⟩
    have w : WF (sClose σ).2 := wf_close wf hc
    unfold sClose at w ⊢
    rw [if_pos (show opB σ = 1 ∧ miB σ ≤ 0 from k1), yrk1_is, yrkK_is] at w ⊢
    exact ⟨e0, ad, tr, c2, f2, rfl, hc2, hf2, IX_B I, e2, w⟩
  · rintro E h' ⟨rfl, rfl, k1⟩
    unfold sClose
    rw [if_neg (show ¬ (opB σ = 1 ∧ miB σ ≤ 0) from k1)]
    exact ⟨xcS, ⟨ad, tr, c2, f2, rfl, hc2, hf2, I, rfl, wf⟩⟩

theorem h_season (hfl : l.stackTraces = false) (H : HD Γ x σ h)  : HC l Γ m_X4_season [.ref x] x σ h (sSeason σ) := by
  obtain ⟨ad, tr, c2, f2, rfl, hc2, hf2, I, rfl, wf⟩ := H
  refine Ct.mono (x_season hfl I wf.2.2.2.1 wf.B wf.2.2.2.op) ?_ ?_
  · rintro v h' ⟨e0, k1, e2⟩
    have w : WF (sSeason σ).2 := wf_season wf
    unfold sSeason at w ⊢
    rw [if_pos (show opB σ = 0 from k1)] at w ⊢
    exact ⟨e0, ad, tr, c2, f2, rfl, hc2, hf2, IX_B I, e2, w⟩
  · rintro E h' ⟨rfl, rfl, k1⟩
    unfold sSeason
    rw [if_neg (show ¬ opB σ = 0 from k1)]
    exact ⟨xcS, ⟨ad, tr, c2, f2, rfl, hc2, hf2, I, rfl, wf⟩⟩

theorem h_ofBand (hfl : l.stackTraces = false) (H : HD Γ x σ h) {b : Int} (hb : -2147483648 ≤ b ∧ b ≤ 2147483647) {w : Int} (hw : -2147483648 ≤ w ∧ w ≤ 2147483647) : HC l Γ m_X4_ofBand [.ref x, iv b, iv w] x σ h (sOfBand σ b w) := by
  obtain ⟨ad, tr, c2, f2, rfl, hc2, hf2, I, rfl, wf⟩ := H
  refine Ct.mono (x_ofBand hfl I wf.2.2.2.1 wf.B hb hw) ?_ ?_
  · rintro v h' ⟨e0, ⟨k1, k2⟩, rfl⟩
    unfold sOfBand
    rw [if_pos (show inB σ b from k1), if_pos k2]
    exact ⟨e0, ⟨ad, tr, c2, f2, rfl, hc2, hf2, I, rfl, wf⟩⟩
  · rintro E h' ⟨rfl, ⟨rfl, k1⟩ | ⟨rfl, k1, k2⟩⟩
    all_goals unfold sOfBand
    · rw [if_neg (show ¬ inB σ b from k1)]; exact ⟨xcI, ⟨ad, tr, c2, f2, rfl, hc2, hf2, I, rfl, wf⟩⟩
    · rw [if_pos (show inB σ b from k1), if_neg k2]; exact ⟨xcA, ⟨ad, tr, c2, f2, rfl, hc2, hf2, I, rfl, wf⟩⟩

/-- the time, a long; the beats, a float -/
theorem h_time (hfl : l.stackTraces = false) (H : HD Γ x σ h) : Ct l Γ m_X4_time [.ref x] h (fun v h' => v = some (jv (sTime σ).1) ∧ HD Γ x σ h') (fun _ _ => False) := by
  obtain ⟨ad, tr, c2, f2, rfl, hc2, hf2, I, rfl, wf⟩ := H
  refine Ct.mono (x_time hfl I wf.1.1 wf.T wf.2.1) ?_ ?_
  · rintro v h' ⟨e0, rfl⟩
    exact ⟨e0, ⟨ad, tr, c2, f2, rfl, hc2, hf2, I, rfl, wf⟩⟩
  · rintro E h' z
    exact z.elim
theorem h_beats (hfl : l.stackTraces = false) (H : HD Γ x σ h) {p q : Int} (hp : -2147483648 ≤ p ∧ p ≤ 2147483647) (hq : -2147483648 ≤ q ∧ q ≤ 2147483647) : Ct l Γ m_X4_beats [.ref x, iv p, iv q] h (fun v h' => v = some (.float (btF (sApart σ p q).1)) ∧ (inP σ p ∧ inP σ q) ∧ (0 ≤ (sApart σ p q).1 ∧ (sApart σ p q).1 ≤ 1000) ∧ HD Γ x σ h') (fun E h' => E = "java/lang/IndexOutOfBoundsException" ∧ ¬ (inP σ p ∧ inP σ q) ∧ HD Γ x σ h') := by
  obtain ⟨ad, tr, c2, f2, rfl, hc2, hf2, I, rfl, wf⟩ := H
  refine Ct.mono (x_beats hfl I wf.2.2.1.1 wf.2.2.1.2 hp hq) ?_ ?_
  · rintro v h' ⟨e0, k1, rfl⟩
    unfold sApart
    rw [if_pos (show inP σ p ∧ inP σ q from k1)]
    have b1 : -400 ≤ pPit (gP σ p) ∧ pPit (gP σ p) ≤ 600 := pPit_bd (wf.2.2.1.2 p.toNat (by have := k1.1.2; omega))
    have b2 : -400 ≤ pPit (gP σ q) ∧ pPit (gP σ q) ≤ 600 := pPit_bd (wf.2.2.1.2 q.toNat (by have := k1.2.2; omega))
    refine ⟨e0, k1, ?_, ⟨ad, tr, c2, f2, rfl, hc2, hf2, I, rfl, wf⟩⟩
    show 0 ≤ isAbs (pPit (gP σ p) - pPit (gP σ q)) ∧ isAbs (pPit (gP σ p) - pPit (gP σ q)) ≤ 1000
    unfold isAbs
    split <;> omega
  · rintro E h' ⟨rfl, rfl, k1⟩
    exact ⟨rfl, k1, ⟨ad, tr, c2, f2, rfl, hc2, hf2, I, rfl, wf⟩⟩
end HCs
