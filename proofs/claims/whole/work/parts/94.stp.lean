/-! Each pair of calls -/
section C94
variable {g : gT} {σ : sT} {l : Nat → Nat} {q : Nat}
theorem r00 : R32 0 := ⟨by decide, by decide⟩
theorem wLk_EP {B : Int} {s : Int → Int} (ho : SOK B s) (h9 : s 9 ≠ 0) (hl : wLk s (wTe s) 0 (stK s) = -1) (hr0 : wTu s (stK s) ≠ -1) : (wEt s (wTu s (stK s))).length ≠ 0 := by
  have hk := (stK_ok ho).2.2 h9
  have h1 := (lkF_iff (wN s - stK s) (stK s)).mp hl (stK s) (Nat.le_refl _) (by omega)
  intro h2
  have h3 : wLkQ s (wTe s) 0 (stK s) = true := by
    unfold wLkQ
    rw [decide_eq_true hr0, decide_eq_true (by rw [Int.add_zero]; exact h2)]
    rfl
  rw [h1] at h3
  cases h3
theorem coD0 (m h : Int) (H : Nat) (p q : Int) : coD m h 0 H p q = dC m h H p q := by
  unfold coD
  split <;> omega
theorem st_size (hJ : Jv (cB q) σ l) {a : Int} (ha : R32 a) : LwA g zL_size zX6_size [.ref 0, iv a, .ref 108] [.ref 92, iv a] R32 q σ l := by
  have hJ2 := hJ
  obtain ⟨⟨n, hI, hn⟩, hr⟩ := hJ2
  have hK := hI.K
  have ho := hK.ok
  have hc := hK.st
  have h8 : n ≤ 8 := hI.2.2.2
  have hHI := ho.hI
  have hNI := ho.nI
  have hn40 := ho.notes
  by_cases h : 0 ≤ a ∧ a ≤ 15
  · exact LwA.q hJ (Fq.same hK (size_ok hK h hI.2.2.1)) (fun V k n R hV h => hp_size_ok hV h) (fun τ l' f => size_q ho (f 93 (by decide) (by decide)) h ((congrFun (f 92 (by decide) (by decide)) 5).trans hn))
  · exact LwA.t (Or.inl rfl) r00 hJ (hp_size_t1 (size_bad ho hc ha h)) (size_r ho rfl ha h)
theorem st_hole (hJ : Jv (cB q) σ l) {a b : Int} (ha : R32 a) (hb : R32 b) : LwA g zL_hole zX6_hole [.ref 0, iv a, iv b, .ref 108] [.ref 92, iv a, iv b] R32 q σ l := by
  have hJ2 := hJ
  obtain ⟨⟨n, hI, hn⟩, hr⟩ := hJ2
  have hK := hI.K
  have ho := hK.ok
  have hc := hK.st
  have h8 : n ≤ 8 := hI.2.2.2
  have hHI := ho.hI
  have hNI := ho.nI
  have hn40 := ho.notes
  by_cases h : 0 ≤ a ∧ a < σ 93 3
  · by_cases h2 : 0 ≤ b ∧ b ≤ 2
    · obtain ⟨i, rfl⟩ : ∃ i : Nat, a = (i : Int) := ⟨a.toNat, by omega⟩
      exact LwA.q hJ (Fq.same hK (hole_ok hK ha hb h h2)) (fun V k n R hV h => hp_hole_ok hV h) (fun τ l' f => hole_q ho (f 93 (by decide) (by decide)) hb (by omega) h2)
    · exact LwA.t (Or.inr rfl) r00 hJ (hp_hole_t2 (hole_bad2 ho hc ha hb h h2)) (hole_r2 ho rfl ha hb h h2)
  · exact LwA.t (Or.inl rfl) r00 hJ (hp_hole_t1 (hole_bad1 ho hc ha h)) (hole_r1 ho rfl ha hb h)
theorem st_covered (hJ : Jv (cB q) σ l) {a b : Int} (ha : R32 a) (hb : R32 b) : LwA g zL_covered zX6_covered [.ref 0, iv a, iv b, .ref 108] [.ref 92, iv a, iv b] R32 q σ l := by
  have hJ2 := hJ
  obtain ⟨⟨n, hI, hn⟩, hr⟩ := hJ2
  have hK := hI.K
  have ho := hK.ok
  have hc := hK.st
  have h8 : n ≤ 8 := hI.2.2.2
  have hHI := ho.hI
  have hNI := ho.nI
  have hn40 := ho.notes
  by_cases h : 0 ≤ a ∧ a < 2 * ((3 ^ wH (σ 93) : Nat) : Int)
  · by_cases h2 : 0 ≤ b ∧ b < σ 93 3
    · obtain ⟨i, rfl⟩ : ∃ i : Nat, b = (i : Int) := ⟨b.toNat, by omega⟩
      exact LwA.q hJ (Fq.same hK (covered_ok hK ha hb h h2)) (fun V k n R hV h => hp_covered_ok hV h) (fun τ l' f => covered_q ho (f 93 (by decide) (by decide)) h (by omega))
    · exact LwA.t (Or.inl rfl) r00 hJ (hp_covered_t1 (covered_bad2 ho hc ha hb h h2)) (covered_r ho rfl ha hb (fun z => h2 z.2))
  · exact LwA.t (Or.inl rfl) r00 hJ (hp_covered_t1 (covered_bad1 ho hc ha h)) (covered_r ho rfl ha hb (fun z => h z.1))
theorem st_sounding (hJ : Jv (cB q) σ l) {a : Int} (ha : R32 a) : LwA g zL_sounding zX6_sounding [.ref 0, iv a, .ref 108] [.ref 92, iv a] R32 q σ l := by
  have hJ2 := hJ
  obtain ⟨⟨n, hI, hn⟩, hr⟩ := hJ2
  have hK := hI.K
  have ho := hK.ok
  have hc := hK.st
  have h8 : n ≤ 8 := hI.2.2.2
  have hHI := ho.hI
  have hNI := ho.nI
  have hn40 := ho.notes
  by_cases h : 0 ≤ a ∧ a < 2 * ((3 ^ wH (σ 93) : Nat) : Int)
  · exact LwA.q hJ (sounding_ok hK ha h) (fun V k n R hV h => hp_sounding_ok hV h) (fun τ l' f => sounding_q ho (f 93 (by decide) (by decide)) ha h)
  · exact LwA.t (Or.inl rfl) r00 hJ (hp_sounding_t1 (sounding_bad ho hc ha h)) (sounding_r ho rfl ha h)
theorem st_cents (hJ : Jv (cB q) σ l) {a : Int} (ha : R32 a) : LwA g zL_cents zX6_cents [.ref 0, iv a, .ref 108] [.ref 92, iv a] R32 q σ l := by
  have hJ2 := hJ
  obtain ⟨⟨n, hI, hn⟩, hr⟩ := hJ2
  have hK := hI.K
  have ho := hK.ok
  have hc := hK.st
  have h8 : n ≤ 8 := hI.2.2.2
  have hHI := ho.hI
  have hNI := ho.nI
  have hn40 := ho.notes
  by_cases h : 0 ≤ a ∧ a < 2 * ((3 ^ wH (σ 93) : Nat) : Int)
  · exact LwA.q hJ (cents_ok hK ha h) (fun V k n R hV h => hp_cents_ok hV h) (fun τ l' f => cents_q ho (f 93 (by decide) (by decide)) ha h)
  · exact LwA.t (Or.inl rfl) r00 hJ (hp_cents_t1 (cents_bad ho hc ha h)) (cents_r ho rfl ha h)
theorem st_tone (hJ : Jv (cB q) σ l) {a : Int} (ha : R32 a) : LwA g zL_tone zX6_tone [.ref 0, iv a, .ref 108] [.ref 92, iv a] R32 q σ l := by
  have hJ2 := hJ
  obtain ⟨⟨n, hI, hn⟩, hr⟩ := hJ2
  have hK := hI.K
  have ho := hK.ok
  have hc := hK.st
  have h8 : n ≤ 8 := hI.2.2.2
  have hHI := ho.hI
  have hNI := ho.nI
  have hn40 := ho.notes
  by_cases h : 0 ≤ a ∧ a < 2 * ((3 ^ wH (σ 93) : Nat) : Int)
  · exact LwA.q hJ (tone_ok hK ha h) (fun V k n R hV h => hp_tone_ok hV h) (fun τ l' f => tone_q ho (f 93 (by decide) (by decide)) ha h)
  · exact LwA.t (Or.inl rfl) r00 hJ (hp_tone_t1 (tone_bad ho hc ha h)) (tone_r ho rfl ha h)
theorem st_off (hJ : Jv (cB q) σ l) {a : Int} (ha : R32 a) : LwA g zL_off zX6_off [.ref 0, iv a, .ref 108] [.ref 92, iv a] R32 q σ l := by
  have hJ2 := hJ
  obtain ⟨⟨n, hI, hn⟩, hr⟩ := hJ2
  have hK := hI.K
  have ho := hK.ok
  have hc := hK.st
  have h8 : n ≤ 8 := hI.2.2.2
  have hHI := ho.hI
  have hNI := ho.nI
  have hn40 := ho.notes
  by_cases h : 0 ≤ a ∧ a < 2 * ((3 ^ wH (σ 93) : Nat) : Int)
  · exact LwA.q hJ (off_ok hK ha h) (fun V k n R hV h => hp_off_ok hV h) (fun τ l' f => off_q ho (f 93 (by decide) (by decide)) ha h)
  · exact LwA.t (Or.inl rfl) r00 hJ (hp_off_t1 (off_bad ho hc ha h)) (off_r ho rfl ha h)
theorem st_halves (hJ : Jv (cB q) σ l) {a : Int} (ha : R32 a) : LwA g zL_halves zX6_halves [.ref 0, iv a, .ref 108] [.ref 92, iv a] R32 q σ l := by
  have hJ2 := hJ
  obtain ⟨⟨n, hI, hn⟩, hr⟩ := hJ2
  have hK := hI.K
  have ho := hK.ok
  have hc := hK.st
  have h8 : n ≤ 8 := hI.2.2.2
  have hHI := ho.hI
  have hNI := ho.nI
  have hn40 := ho.notes
  by_cases h : 0 ≤ a ∧ a < 2 * ((3 ^ wH (σ 93) : Nat) : Int)
  · exact LwA.q hJ (halves_ok hK ha h) (fun V k n R hV h => hp_halves_ok hV h) (fun τ l' f => halves_q ho (f 93 (by decide) (by decide)) ha h)
  · exact LwA.t (Or.inl rfl) r00 hJ (hp_halves_t1 (halves_bad ho hc ha h)) (halves_r ho rfl ha h)
theorem st_crosses (hJ : Jv (cB q) σ l) {a : Int} (ha : R32 a) : LwA g zL_crosses zX6_crosses [.ref 0, iv a, .ref 108] [.ref 92, iv a] R32 q σ l := by
  have hJ2 := hJ
  obtain ⟨⟨n, hI, hn⟩, hr⟩ := hJ2
  have hK := hI.K
  have ho := hK.ok
  have hc := hK.st
  have h8 : n ≤ 8 := hI.2.2.2
  have hHI := ho.hI
  have hNI := ho.nI
  have hn40 := ho.notes
  by_cases h : 0 ≤ a ∧ a < 2 * ((3 ^ wH (σ 93) : Nat) : Int)
  · exact LwA.q hJ (crosses_ok hK ha h) (fun V k n R hV h => hp_crosses_ok hV h) (fun τ l' f => crosses_q ho (f 93 (by decide) (by decide)) ha h)
  · exact LwA.t (Or.inl rfl) r00 hJ (hp_crosses_t1 (crosses_bad ho hc ha h)) (crosses_r ho rfl ha h)
theorem st_isEasy (hJ : Jv (cB q) σ l) {a : Int} (ha : R32 a) : LwA g zL_isEasy zX6_isEasy [.ref 0, iv a, .ref 108] [.ref 92, iv a] (fun b => b = 0 ∨ b = 1) q σ l := by
  have hJ2 := hJ
  obtain ⟨⟨n, hI, hn⟩, hr⟩ := hJ2
  have hK := hI.K
  have ho := hK.ok
  have hc := hK.st
  have h8 : n ≤ 8 := hI.2.2.2
  have hHI := ho.hI
  have hNI := ho.nI
  have hn40 := ho.notes
  by_cases h : 0 ≤ a ∧ a < 2 * ((3 ^ wH (σ 93) : Nat) : Int)
  · refine LwA.z ?_ hJ (isEasy_ok hK ha h) (fun V k n R hV h => hp_isEasy_ok hV h) (fun τ l' f => isEasy_q ho (f 93 (by decide) (by decide)) ha h)
    split
    · exact Or.inr rfl
    · exact Or.inl rfl
  · exact LwA.t (Or.inl rfl) (Or.inl rfl) hJ (hp_isEasy_t1 (isEasy_bad ho hc ha h)) (isEasy_r ho rfl ha h)
theorem st_plays (hJ : Jv (cB q) σ l) {a : Int} (ha : R32 a) : LwA g zL_plays zX6_plays [.ref 0, iv a, .ref 108] [.ref 92, iv a] R32 q σ l := by
  have hJ2 := hJ
  obtain ⟨⟨n, hI, hn⟩, hr⟩ := hJ2
  have hK := hI.K
  have ho := hK.ok
  have hc := hK.st
  have h8 : n ≤ 8 := hI.2.2.2
  have hHI := ho.hI
  have hNI := ho.nI
  have hn40 := ho.notes
  by_cases h : 0 ≤ a ∧ a < 25
  · exact LwA.q hJ (plays_ok hK ha h) (fun V k n R hV h => hp_plays_ok hV h) (fun τ l' f => plays_q ho (f 93 (by decide) (by decide)) ha (by omega))
  · exact LwA.t (Or.inl rfl) r00 hJ (hp_plays_t1 (plays_bad ho hc ha h)) (plays_r ho rfl ha (by omega))
theorem st_playOf (hJ : Jv (cB q) σ l) {a b : Int} (ha : R32 a) (hb : R32 b) : LwA g zL_playOf zX6_playOf [.ref 0, iv a, iv b, .ref 108] [.ref 92, iv a, iv b] R32 q σ l := by
  have hJ2 := hJ
  obtain ⟨⟨n, hI, hn⟩, hr⟩ := hJ2
  have hK := hI.K
  have ho := hK.ok
  have hc := hK.st
  have h8 : n ≤ 8 := hI.2.2.2
  have hHI := ho.hI
  have hNI := ho.nI
  have hn40 := ho.notes
  by_cases h : 0 ≤ a ∧ a < 25
  · exact LwA.q hJ (playOf_ok hK ha h hb) (fun V k n R hV h => hp_playOf_ok hV h) (fun τ l' f => playOf_q ho (f 93 (by decide) (by decide)) ha hb (by omega))
  · exact LwA.t (Or.inl rfl) r00 hJ (hp_playOf_t1 (playOf_bad ho hc ha h)) (playOf_r ho rfl ha hb (by omega))
theorem st_truest (hJ : Jv (cB q) σ l) {a : Int} (ha : R32 a) : LwA g zL_truest zX6_truest [.ref 0, iv a, .ref 108] [.ref 92, iv a] R32 q σ l := by
  have hJ2 := hJ
  obtain ⟨⟨n, hI, hn⟩, hr⟩ := hJ2
  have hK := hI.K
  have ho := hK.ok
  have hc := hK.st
  have h8 : n ≤ 8 := hI.2.2.2
  have hHI := ho.hI
  have hNI := ho.nI
  have hn40 := ho.notes
  by_cases h : 0 ≤ a ∧ a < 25
  · exact LwA.q hJ (truest_ok hK ha h) (fun V k n R hV h => hp_truest_ok hV h) (fun τ l' f => truest_q ho (f 93 (by decide) (by decide)) (by omega))
  · exact LwA.t (Or.inl rfl) r00 hJ (hp_truest_t1 (truest_bad ho hc ha h)) (truest_r ho rfl ha (by omega))
theorem st_nearest (hJ : Jv (cB q) σ l) {a : Int} (ha : R32 a) : LwA g zL_nearest zX6_nearest [.ref 0, iv a, .ref 108] [.ref 92, iv a] R32 q σ l := by
  have hJ2 := hJ
  obtain ⟨⟨n, hI, hn⟩, hr⟩ := hJ2
  have hK := hI.K
  have ho := hK.ok
  have hc := hK.st
  have h8 : n ≤ 8 := hI.2.2.2
  have hHI := ho.hI
  have hNI := ho.nI
  have hn40 := ho.notes
  by_cases h : 0 ≤ a ∧ a < 25
  · exact LwA.q hJ (nearest_ok hK ha h) (fun V k n R hV h => hp_nearest_ok hV h) (fun τ l' f => nearest_q ho (f 93 (by decide) (by decide)) (by omega))
  · exact LwA.t (Or.inl rfl) r00 hJ (hp_nearest_t1 (nearest_bad ho hc ha h)) (nearest_r ho rfl ha (by omega))
theorem st_change (hJ : Jv (cB q) σ l) {a b : Int} (ha : R32 a) (hb : R32 b) : LwA g zL_change zX6_change [.ref 0, iv a, iv b, .ref 108] [.ref 92, iv a, iv b] R32 q σ l := by
  have hJ2 := hJ
  obtain ⟨⟨n, hI, hn⟩, hr⟩ := hJ2
  have hK := hI.K
  have ho := hK.ok
  have hc := hK.st
  have h8 : n ≤ 8 := hI.2.2.2
  have hHI := ho.hI
  have hNI := ho.nI
  have hn40 := ho.notes
  by_cases h : 0 ≤ a ∧ a < 2 * ((3 ^ wH (σ 93) : Nat) : Int)
  · by_cases h2 : 0 ≤ b ∧ b < 2 * ((3 ^ wH (σ 93) : Nat) : Int)
    · exact LwA.q hJ (change_ok hK ha hb h h2) (fun V k n R hV h => hp_change_ok hV h) (fun τ l' f => change_q ho (f 93 (by decide) (by decide)) ha hb ⟨h, h2⟩)
    · exact LwA.t (Or.inl rfl) r00 hJ (hp_change_t1 (change_bad2 ho hc ha hb h h2)) (change_r ho rfl ha hb (fun z => h2 z.2))
  · exact LwA.t (Or.inl rfl) r00 hJ (hp_change_t1 (change_bad1 ho hc ha h)) (change_r ho rfl ha hb (fun z => h z.1))
theorem st_fingers (hJ : Jv (cB q) σ l) {a b : Int} (ha : R32 a) (hb : R32 b) : LwA g zL_fingers zX6_fingers [.ref 0, iv a, iv b, .ref 108] [.ref 92, iv a, iv b] R32 q σ l := by
  have hJ2 := hJ
  obtain ⟨⟨n, hI, hn⟩, hr⟩ := hJ2
  have hK := hI.K
  have ho := hK.ok
  have hc := hK.st
  have h8 : n ≤ 8 := hI.2.2.2
  have hHI := ho.hI
  have hNI := ho.nI
  have hn40 := ho.notes
  by_cases h : 0 ≤ a ∧ a < 2 * ((3 ^ wH (σ 93) : Nat) : Int)
  · by_cases h2 : 0 ≤ b ∧ b < 2 * ((3 ^ wH (σ 93) : Nat) : Int)
    · have h9 := fingers_ok (g := g) hK ha hb h h2
      rw [coD0] at h9
      exact LwA.q hJ (h9) (fun V k n R hV h => hp_fingers_ok hV h) (fun τ l' f => fingers_q ho (f 93 (by decide) (by decide)) ha hb ⟨h, h2⟩)
    · exact LwA.t (Or.inl rfl) r00 hJ (hp_fingers_t1 (fingers_bad2 ho hc ha hb h h2)) (fingers_r ho rfl ha hb (fun z => h2 z.2))
  · exact LwA.t (Or.inl rfl) r00 hJ (hp_fingers_t1 (fingers_bad1 ho hc ha h)) (fingers_r ho rfl ha hb (fun z => h z.1))
theorem st_note (hJ : Jv (cB q) σ l) {a : Int} (ha : R32 a) : LwA g zL_note zX6_note [.ref 0, iv a, .ref 108] [.ref 92, iv a] R32 q σ l := by
  have hJ2 := hJ
  obtain ⟨⟨n, hI, hn⟩, hr⟩ := hJ2
  have hK := hI.K
  have ho := hK.ok
  have hc := hK.st
  have h8 : n ≤ 8 := hI.2.2.2
  have hHI := ho.hI
  have hNI := ho.nI
  have hn40 := ho.notes
  by_cases h : 0 ≤ a ∧ a < σ 93 9
  · exact LwA.q hJ (Fq.same hK (note_ok hK ha h)) (fun V k n R hV h => hp_note_ok hV h) (fun τ l' f => note_q ho (f 93 (by decide) (by decide)) ha h)
  · exact LwA.t (Or.inl rfl) r00 hJ (hp_note_t1 (note_bad ho hc ha h)) (note_r ho rfl ha h)
theorem st_wayPlay (hJ : Jv (cB q) σ l) {a : Int} (ha : R32 a) : LwA g zL_wayPlay zX6_wayPlay [.ref 0, iv a, .ref 108] [.ref 92, iv a] R32 q σ l := by
  have hJ2 := hJ
  obtain ⟨⟨n, hI, hn⟩, hr⟩ := hJ2
  have hK := hI.K
  have ho := hK.ok
  have hc := hK.st
  have h8 : n ≤ 8 := hI.2.2.2
  have hHI := ho.hI
  have hNI := ho.nI
  have hn40 := ho.notes
  by_cases h : 0 ≤ a ∧ a < σ 93 9
  · obtain ⟨i, rfl⟩ : ∃ i : Nat, a = (i : Int) := ⟨a.toNat, by omega⟩
    have hi : i < wN (σ 93) := by omega
    exact LwA.q hJ (wayPlay_ok hK hi) (fun V k n R hV h => hp_wayPlay_ok hV h) (fun τ l' f => wayPlay_q ho (f 93 (by decide) (by decide)) hi)
  · exact LwA.t (Or.inl rfl) r00 hJ (hp_wayPlay_t1 (wayPlay_bad ho hc ha h)) (wayPlay_r ho rfl ha h)
theorem st_wayChange (hJ : Jv (cB q) σ l) {a : Int} (ha : R32 a) : LwA g zL_wayChange zX6_wayChange [.ref 0, iv a, .ref 108] [.ref 92, iv a] R32 q σ l := by
  have hJ2 := hJ
  obtain ⟨⟨n, hI, hn⟩, hr⟩ := hJ2
  have hK := hI.K
  have ho := hK.ok
  have hc := hK.st
  have h8 : n ≤ 8 := hI.2.2.2
  have hHI := ho.hI
  have hNI := ho.nI
  have hn40 := ho.notes
  by_cases h : 0 ≤ a ∧ a < σ 93 9
  · obtain ⟨i, rfl⟩ : ∃ i : Nat, a = (i : Int) := ⟨a.toNat, by omega⟩
    have hi : i < wN (σ 93) := by omega
    exact LwA.q hJ (wayChange_ok hK hi) (fun V k n R hV h => hp_wayChange_ok hV h) (fun τ l' f => wayChange_q ho (f 93 (by decide) (by decide)) hi)
  · exact LwA.t (Or.inl rfl) r00 hJ (hp_wayChange_t1 (wayChange_bad ho hc ha h)) (wayChange_r ho rfl ha h)
theorem st_moved (hJ : Jv (cB q) σ l) {a : Int} (ha : R32 a) : LwA g zL_moved zX6_moved [.ref 0, iv a, .ref 108] [.ref 92, iv a] R32 q σ l := by
  have hJ2 := hJ
  obtain ⟨⟨n, hI, hn⟩, hr⟩ := hJ2
  have hK := hI.K
  have ho := hK.ok
  have hc := hK.st
  have h8 : n ≤ 8 := hI.2.2.2
  have hHI := ho.hI
  have hNI := ho.nI
  have hn40 := ho.notes
  by_cases h : 0 ≤ a ∧ a < σ 93 3
  · obtain ⟨i, rfl⟩ : ∃ i : Nat, a = (i : Int) := ⟨a.toNat, by omega⟩
    have hi : i < wH (σ 93) := by omega
    exact LwA.q hJ (moved_ok hK hi) (fun V k n R hV h => hp_moved_ok hV h) (fun τ l' f => moved_q ho (f 93 (by decide) (by decide)) hi)
  · exact LwA.t (Or.inl rfl) r00 hJ (hp_moved_t1 (moved_bad ho hc ha h)) (moved_r ho rfl ha h)
theorem st_costBy (hJ : Jv (cB q) σ l) {a : Int} (ha : R32 a) : LwA g zL_costBy zX6_costBy [.ref 0, iv a, .ref 108] [.ref 92, iv a] R32 q σ l := by
  have hJ2 := hJ
  obtain ⟨⟨n, hI, hn⟩, hr⟩ := hJ2
  have hK := hI.K
  have ho := hK.ok
  have hc := hK.st
  have h8 : n ≤ 8 := hI.2.2.2
  have hHI := ho.hI
  have hNI := ho.nI
  have hn40 := ho.notes
  by_cases h : -12 ≤ a ∧ a ≤ 12
  · exact LwA.q hJ (costBy_ok hK ha h) (fun V k n R hV h => hp_costBy_ok hV h) (fun τ l' f => costBy_q ho (f 93 (by decide) (by decide)) h)
  · exact LwA.t (Or.inl rfl) r00 hJ (hp_costBy_t1 (costBy_bad ho hc ha h)) (costBy_r ho rfl ha h)
theorem st_costWith (hJ : Jv (cB q) σ l) {a b : Int} (ha : R32 a) (hb : R32 b) : LwA g zL_costWith zX6_costWith [.ref 0, iv a, iv b, .ref 108] [.ref 92, iv a, iv b] R32 q σ l := by
  have hJ2 := hJ
  obtain ⟨⟨n, hI, hn⟩, hr⟩ := hJ2
  have hK := hI.K
  have ho := hK.ok
  have hc := hK.st
  have h8 : n ≤ 8 := hI.2.2.2
  have hHI := ho.hI
  have hNI := ho.nI
  have hn40 := ho.notes
  by_cases h : (0 ≤ a ∧ a ≤ 2) ∧ 0 ≤ b ∧ b ≤ 3
  · exact LwA.q hJ (costWith_ok hK ha hb h) (fun V k n R hV h => hp_costWith_ok hV h) (fun τ l' f => costWith_q ho (f 93 (by decide) (by decide)) ha hb h)
  · exact LwA.t (Or.inl rfl) r00 hJ (hp_costWith_t1 (costWith_bad (B := cB q) (s := σ 93) ha hb h)) (costWith_r ho rfl ha hb h)
theorem st_setHole (hJ : Jv (cB q) σ l) {a b d : Int} (ha : R32 a) (hb : R32 b) (hd : R32 d) : LwA g zL_setHole zX6_setHole [.ref 0, iv a, iv b, iv d, .ref 108] [.ref 92, iv a, iv b, iv d] R32 q σ l := by
  have hJ2 := hJ
  obtain ⟨⟨n, hI, hn⟩, hr⟩ := hJ2
  have hK := hI.K
  have ho := hK.ok
  have hc := hK.st
  have h8 : n ≤ 8 := hI.2.2.2
  have hHI := ho.hI
  have hNI := ho.nI
  have hn40 := ho.notes
  by_cases h : 0 ≤ a ∧ a < σ 93 3
  · by_cases h2 : (1 ≤ b ∧ b ≤ σ 93 0 - 1) ∧ 2 ≤ d ∧ d ≤ 15
    · obtain ⟨i, rfl⟩ : ∃ i : Nat, a = (i : Int) := ⟨a.toNat, by omega⟩
      have hi : i < wH (σ 93) := by omega
      by_cases h3 : (((i : Int) = 0 ∨ wPl (σ 93) ((i : Int) - 1) < b) ∧ ((i : Int) = σ 93 3 - 1 ∨ b < wPl (σ 93) ((i : Int) + 1)))
      · exact LwA.m hJ ⟨Int.le_refl _, cB_le q⟩ (Fs.m (setHole_ok hI hi hb hd h2.1 h2.2 h3)) (fun V k n R hV h => hp_setHole_ok hV h) (fun τ l' f => by
          have h9 := setHole_q (g := g) (l := l') ho (f 93 (by decide) (by decide)) ((congrFun (f 92 (by decide) (by decide)) 5).trans hn) h8 hi h2.1 h2.2 h3
          rw [prf f] at h9
          exact h9)
      · exact LwA.q hJ (Fq.same hK (setHole_no ho hc hi hb hd h2.1 h2.2 h3)) (fun V k n R hV h => hp_setHole_ok hV h) (fun τ l' f => setHole_f ho (f 93 (by decide) (by decide)) hi h2.1 h2.2 h3)
    · exact LwA.t (Or.inr rfl) r00 hJ (hp_setHole_t2 (setHole_bad2 ho hc ha hb hd h h2)) (setHole_r2 ho rfl ha hb hd h h2)
  · exact LwA.t (Or.inl rfl) r00 hJ (hp_setHole_t1 (setHole_bad1 ho hc ha h)) (setHole_r1 ho rfl ha hb hd h)
theorem st_setLimits (hJ : Jv (cB q) σ l) {a b : Int} (ha : R32 a) (hb : R32 b) : LwA g zL_setLimits zX6_setLimits [.ref 0, iv a, iv b, .ref 108] [.ref 92, iv a, iv b] R32 q σ l := by
  have hJ2 := hJ
  obtain ⟨⟨n, hI, hn⟩, hr⟩ := hJ2
  have hK := hI.K
  have ho := hK.ok
  have hc := hK.st
  have h8 : n ≤ 8 := hI.2.2.2
  have hHI := ho.hI
  have hNI := ho.nI
  have hn40 := ho.notes
  by_cases h : (0 ≤ a ∧ a ≤ 2) ∧ 0 ≤ b ∧ b ≤ 3
  · exact LwA.m hJ ⟨Int.le_refl _, cB_le q⟩ (Fs.m (setLimits_ok hI ha hb h)) (fun V k n R hV h => hp_setLimits_ok hV h) (fun τ l' f => by
      have h9 := setLimits_q (g := g) (l := l') ho (f 93 (by decide) (by decide)) ((congrFun (f 92 (by decide) (by decide)) 5).trans hn) h8 h
      rw [prf f] at h9
      exact h9)
  · exact LwA.t (Or.inl rfl) r00 hJ (hp_setLimits_t1 (setLimits_bad ha hb h)) (setLimits_r ho rfl ha hb h)
theorem st_setTolerance (hJ : Jv (cB q) σ l) {a : Int} (ha : R32 a) : LwA g zL_setTolerance zX6_setTolerance [.ref 0, iv a, .ref 108] [.ref 92, iv a] R32 q σ l := by
  have hJ2 := hJ
  obtain ⟨⟨n, hI, hn⟩, hr⟩ := hJ2
  have hK := hI.K
  have ho := hK.ok
  have hc := hK.st
  have h8 : n ≤ 8 := hI.2.2.2
  have hHI := ho.hI
  have hNI := ho.nI
  have hn40 := ho.notes
  by_cases h : 5 ≤ a ∧ a ≤ 49
  · exact LwA.m hJ ⟨Int.le_refl _, cB_le q⟩ (Fs.m (setTolerance_ok hI ha h)) (fun V k n R hV h => hp_setTolerance_ok hV h) (fun τ l' f => by
      have h9 := setTolerance_q (g := g) (l := l') ho (f 93 (by decide) (by decide)) ((congrFun (f 92 (by decide) (by decide)) 5).trans hn) h8 h
      rw [prf f] at h9
      exact h9)
  · exact LwA.t (Or.inl rfl) r00 hJ (hp_setTolerance_t1 (setTolerance_bad ha h)) (setTolerance_r ho rfl ha h)
theorem st_setCosts (hJ : Jv (cB q) σ l) {a b d : Int} (ha : R32 a) (hb : R32 b) (hd : R32 d) : LwA g zL_setCosts zX6_setCosts [.ref 0, iv a, iv b, iv d, .ref 108] [.ref 92, iv a, iv b, iv d] R32 q σ l := by
  have hJ2 := hJ
  obtain ⟨⟨n, hI, hn⟩, hr⟩ := hJ2
  have hK := hI.K
  have ho := hK.ok
  have hc := hK.st
  have h8 : n ≤ 8 := hI.2.2.2
  have hHI := ho.hI
  have hNI := ho.nI
  have hn40 := ho.notes
  by_cases h : (1 ≤ a ∧ a ≤ 9) ∧ (1 ≤ b ∧ b ≤ 9) ∧ 0 ≤ d ∧ d ≤ 9
  · exact LwA.m hJ ⟨Int.le_refl _, cB_le q⟩ (Fs.m (setCosts_ok hI ha hb hd h)) (fun V k n R hV h => hp_setCosts_ok hV h) (fun τ l' f => by
      have h9 := setCosts_q (g := g) (l := l') ho (f 93 (by decide) (by decide)) ((congrFun (f 92 (by decide) (by decide)) 5).trans hn) h8 h
      rw [prf f] at h9
      exact h9)
  · exact LwA.t (Or.inl rfl) r00 hJ (hp_setCosts_t1 (setCosts_bad ha hb hd h)) (setCosts_r ho rfl ha hb hd h)
theorem st_addNote (hJ : Jv (cB q) σ l) {a : Int} (ha : R32 a) : LwA g zL_addNote zX6_addNote [.ref 0, iv a, .ref 108] [.ref 92, iv a] R32 q σ l := by
  have hJ2 := hJ
  obtain ⟨⟨n, hI, hn⟩, hr⟩ := hJ2
  have hK := hI.K
  have ho := hK.ok
  have hc := hK.st
  have h8 : n ≤ 8 := hI.2.2.2
  have hHI := ho.hI
  have hNI := ho.nI
  have hn40 := ho.notes
  by_cases h : -1 ≤ a ∧ a ≤ 24
  · by_cases h9 : σ 93 9 < 40
    · exact LwA.m hJ ⟨Int.le_refl _, cB_le q⟩ (Fs.m (addNote_ok hI ha h h9)) (fun V k n R hV h => hp_addNote_ok hV h) (fun τ l' f => by
        have h10 := addNote_q (g := g) (l := l') ho (f 93 (by decide) (by decide)) ((congrFun (f 92 (by decide) (by decide)) 5).trans hn) h8 h h9
        rw [prf f] at h10
        exact h10)
    · have h40 : σ 93 9 = 40 := by omega
      exact LwA.q hJ (Fq.same hK (addNote_full ho hc ha h h40)) (fun V k n R hV h => hp_addNote_ok hV h) (fun τ l' f => addNote_f ho (f 93 (by decide) (by decide)) h h40)
  · exact LwA.t (Or.inl rfl) r00 hJ (hp_addNote_t1 (addNote_bad ha h)) (addNote_r ho rfl ha h)
theorem st_setNote (hJ : Jv (cB q) σ l) {a b : Int} (ha : R32 a) (hb : R32 b) : LwA g zL_setNote zX6_setNote [.ref 0, iv a, iv b, .ref 108] [.ref 92, iv a, iv b] R32 q σ l := by
  have hJ2 := hJ
  obtain ⟨⟨n, hI, hn⟩, hr⟩ := hJ2
  have hK := hI.K
  have ho := hK.ok
  have hc := hK.st
  have h8 : n ≤ 8 := hI.2.2.2
  have hHI := ho.hI
  have hNI := ho.nI
  have hn40 := ho.notes
  by_cases h : 0 ≤ a ∧ a < σ 93 9
  · by_cases h2 : -1 ≤ b ∧ b ≤ 24
    · obtain ⟨i, rfl⟩ : ∃ i : Nat, a = (i : Int) := ⟨a.toNat, by omega⟩
      have hi : i < wN (σ 93) := by omega
      exact LwA.m hJ ⟨Int.le_refl _, cB_le q⟩ (Fs.m (setNote_ok hI hi hb h2)) (fun V k n R hV h => hp_setNote_ok hV h) (fun τ l' f => by
        have h9 := setNote_q (g := g) (l := l') ho (f 93 (by decide) (by decide)) ((congrFun (f 92 (by decide) (by decide)) 5).trans hn) h8 hi h2
        rw [prf f] at h9
        exact h9)
    · exact LwA.t (Or.inr rfl) r00 hJ (hp_setNote_t2 (setNote_bad2 ho hc ha hb h h2)) (setNote_r2 ho rfl ha hb h h2)
  · exact LwA.t (Or.inl rfl) r00 hJ (hp_setNote_t1 (setNote_bad1 ho hc ha h)) (setNote_r1 ho rfl ha hb h)
theorem st_dropNote (hJ : Jv (cB q) σ l) {a : Int} (ha : R32 a) : LwA g zL_dropNote zX6_dropNote [.ref 0, iv a, .ref 108] [.ref 92, iv a] R32 q σ l := by
  have hJ2 := hJ
  obtain ⟨⟨n, hI, hn⟩, hr⟩ := hJ2
  have hK := hI.K
  have ho := hK.ok
  have hc := hK.st
  have h8 : n ≤ 8 := hI.2.2.2
  have hHI := ho.hI
  have hNI := ho.nI
  have hn40 := ho.notes
  by_cases h : 0 ≤ a ∧ a < σ 93 9
  · obtain ⟨i, rfl⟩ : ∃ i : Nat, a = (i : Int) := ⟨a.toNat, by omega⟩
    have hi : i < wN (σ 93) := by omega
    exact LwA.m hJ ⟨Int.le_refl _, cB_le q⟩ (Fs.m (dropNote_ok hI hi)) (fun V k n R hV h => hp_dropNote_ok hV h) (fun τ l' f => by
      have h9 := dropNote_q (g := g) (l := l') ho (f 93 (by decide) (by decide)) ((congrFun (f 92 (by decide) (by decide)) 5).trans hn) h8 hi
      rw [prf f] at h9
      exact h9)
  · exact LwA.t (Or.inl rfl) r00 hJ (hp_dropNote_t1 (dropNote_bad ho hc ha h)) (dropNote_r ho rfl ha h)
theorem st_repeat (hJ : Jv (cB q) σ l) {a b : Int} (ha : R32 a) (hb : R32 b) : LwA g zL_repeat zX6_repeat [.ref 0, iv a, iv b, .ref 108] [.ref 92, iv a, iv b] R32 q σ l := by
  have hJ2 := hJ
  obtain ⟨⟨n, hI, hn⟩, hr⟩ := hJ2
  have hK := hI.K
  have ho := hK.ok
  have hc := hK.st
  have h8 : n ≤ 8 := hI.2.2.2
  have hHI := ho.hI
  have hNI := ho.nI
  have hn40 := ho.notes
  by_cases h1 : 0 ≤ a ∧ a < σ 93 9
  · by_cases h2 : 0 ≤ b ∧ b < σ 93 9
    · by_cases h3 : a ≤ b
      · by_cases h4 : σ 93 9 + (b - a + 1) ≤ 40
        · exact LwA.m hJ ⟨Int.le_refl _, cB_le q⟩ (Fs.m (repeat_ok hI h1.1 h3 h2.2 h4)) (fun V k n R hV h => hp_repeat_ok hV h) (fun τ l' f => by
            have h9 := repeat_q (g := g) (l := l') ho (f 93 (by decide) (by decide)) ((congrFun (f 92 (by decide) (by decide)) 5).trans hn) h8 h1.1 h3 h2.2 h4
            rw [prf f] at h9
            exact h9)
        · exact LwA.q hJ (Fq.same hK (repeat_full ho hc h1.1 h3 h2.2 h4)) (fun V k n R hV h => hp_repeat_ok hV h) (fun τ l' f => repeat_f ho (f 93 (by decide) (by decide)) h1.1 h3 h2.2 h4)
      · exact LwA.t (Or.inr rfl) r00 hJ (hp_repeat_t2 (repeat_bad2 ho hc h1 h2 h3)) (repeat_r2 ho rfl h1 h2 h3)
    · exact LwA.t (Or.inl rfl) r00 hJ (hp_repeat_t1 (repeat_bad3 ho hc ha hb h1 h2)) (repeat_r1 ho rfl ha hb (fun z => h2 z.2))
  · exact LwA.t (Or.inl rfl) r00 hJ (hp_repeat_t1 (repeat_bad1 ho hc ha h1)) (repeat_r1 ho rfl ha hb (fun z => h1 z.1))
theorem st_higher (hJ : Jv (cB q) σ l) {a : Int} (ha : R32 a) : LwA g zL_higher zX6_higher [.ref 0, iv a, .ref 108] [.ref 92, iv a] R32 q σ l := by
  have hJ2 := hJ
  obtain ⟨⟨n, hI, hn⟩, hr⟩ := hJ2
  have hK := hI.K
  have ho := hK.ok
  have hc := hK.st
  have h8 : n ≤ 8 := hI.2.2.2
  have hHI := ho.hI
  have hNI := ho.nI
  have hn40 := ho.notes
  by_cases h : -12 ≤ a ∧ a ≤ 12
  · by_cases hg : hgB (σ 93) a (wN (σ 93)) = true
    · exact LwA.m hJ ⟨Int.le_refl _, cB_le q⟩ (Fs.m (higher_ok hI h hg)) (fun V k n R hV h => hp_higher_ok hV h) (fun τ l' f => by
        have h9 := higher_q (g := g) (l := l') ho (f 93 (by decide) (by decide)) ((congrFun (f 92 (by decide) (by decide)) 5).trans hn) h8 h hg
        rw [prf f] at h9
        exact h9)
    · exact LwA.q hJ (Fq.same hK (higher_no ho hc h hg)) (fun V k n R hV h => hp_higher_ok hV h) (fun τ l' f => higher_f ho (f 93 (by decide) (by decide)) h hg)
  · exact LwA.t (Or.inl rfl) r00 hJ (hp_higher_t1 (higher_bad ho hc ha h)) (higher_r ho rfl ha h)
theorem st_cover (hJ : Jv (cB q) σ l) {a b : Int} (ha : R32 a) (hb : R32 b) : LwA g zL_cover zX6_cover [.ref 0, iv a, iv b, .ref 108] [.ref 92, iv a, iv b] R32 q σ l := by
  have hJ2 := hJ
  obtain ⟨⟨n, hI, hn⟩, hr⟩ := hJ2
  have hK := hI.K
  have ho := hK.ok
  have hc := hK.st
  have h8 : n ≤ 8 := hI.2.2.2
  have hHI := ho.hI
  have hNI := ho.nI
  have hn40 := ho.notes
  by_cases h : 0 ≤ a ∧ a < σ 93 3
  · by_cases h2 : 0 ≤ b ∧ b ≤ 2
    · obtain ⟨i, rfl⟩ : ∃ i : Nat, a = (i : Int) := ⟨a.toNat, by omega⟩
      have hi : i < wH (σ 93) := by omega
      exact LwA.m hJ ⟨by omega, Int.le_of_eq (cB_s q)⟩ (cover_ok hI hi h2) (fun V k n R hV h => hp_cover_ok hV h) (fun τ l' f => by
        have h9 := cover_q (g := g) (l := l') ho (f 93 (by decide) (by decide)) ((congrFun (f 92 (by decide) (by decide)) 5).trans hn) h8 hi h2
        rw [prf f] at h9
        exact h9)
    · exact LwA.t (Or.inr rfl) r00 hJ (hp_cover_t2 (cover_bad2 ho hc ha hb h h2)) (cover_r2 ho rfl ha hb h h2)
  · exact LwA.t (Or.inl rfl) r00 hJ (hp_cover_t1 (cover_bad1 ho hc ha h)) (cover_r1 ho rfl ha hb h)
theorem st_rewind (hJ : Jv (cB q) σ l) {a : Int} (ha : R32 a) : LwA g zL_rewind zX6_rewind [.ref 0, iv a, .ref 108] [.ref 92, iv a] R32 q σ l := by
  have hJ2 := hJ
  obtain ⟨⟨n, hI, hn⟩, hr⟩ := hJ2
  have hK := hI.K
  have ho := hK.ok
  have hc := hK.st
  have h8 : n ≤ 8 := hI.2.2.2
  have hHI := ho.hI
  have hNI := ho.nI
  have hn40 := ho.notes
  by_cases h : a = 0 ∨ 0 ≤ a ∧ a < σ 93 9
  · exact LwA.m hJ ⟨Int.le_refl _, cB_le q⟩ (Fs.m (rewind_ok hI ha h)) (fun V k n R hV h => hp_rewind_ok hV h) (fun τ l' f => by
      have h9 := rewind_q (g := g) (l := l') ho (f 93 (by decide) (by decide)) ((congrFun (f 92 (by decide) (by decide)) 5).trans hn) h8 h
      rw [prf f] at h9
      exact h9)
  · exact LwA.t (Or.inl rfl) r00 hJ (hp_rewind_t1 (rewind_bad ho hc ha h)) (rewind_r ho rfl ha h)
theorem st_saveSnapshot (hJ : Jv (cB q) σ l) {a : Int} (ha : R32 a) : LwA g zL_saveSnapshot zX6_saveSnapshot [.ref 0, iv a, .ref 108] [.ref 92, iv a] R32 q σ l := by
  have hJ2 := hJ
  obtain ⟨⟨n, hI, hn⟩, hr⟩ := hJ2
  have hK := hI.K
  have ho := hK.ok
  have hc := hK.st
  have h8 : n ≤ 8 := hI.2.2.2
  have hHI := ho.hI
  have hNI := ho.nI
  have hn40 := ho.notes
  by_cases h : 0 ≤ a ∧ a ≤ 1
  · obtain ⟨i, rfl⟩ : ∃ i : Nat, a = (i : Int) := ⟨a.toNat, by omega⟩
    have hi : i < 2 := by omega
    have hcl := saveSnapshot_ok (g := g) hK hi
    rw [iv_nf (σ 93 9)] at hcl
    have hcl2 : Fn g zX5_saveSnapshot 0 0 [.ref 0, iv (i : Int)] σ l (fun o τ l' => o = .inl (some (iv (Int32.ofInt (σ 93 9)).toInt)) ∧ (τ = svS σ i ∧ l' = l)) := hcl
    refine ⟨0, (Int32.ofInt (σ 93 9)).toInt, l, _, 0, 0, Or.inl rfl, nf_R _, Gr.refl l, Nat.zero_le _, Nat.zero_le _, hp_saveSnapshot_ok (nf_R _) hcl2, ?_⟩
    rintro ω l' ⟨τ, ⟨rfl, rfl⟩, rfl⟩
    obtain ⟨ρ, hρ⟩ : ∃ ρ : sT, ρ = up (svS σ i) 108 0 (Int32.ofInt (σ 93 9)).toInt := ⟨_, rfl⟩
    rw [← hρ]
    have fr : ∀ a, a ≠ 8 → a < 84 ∨ 91 < a → a ≠ 108 → ρ a = σ a := fun a a0 a1 a2 => by
      rw [hρ, up_n a2]
      unfold svS
      rw [up_n a0, cpSt_n (by omega)]
    have f8 : ∀ j : Int, j ≠ (i : Int) → ρ 8 j = σ 8 j := fun j hj => by
      rw [hρ, up_n (by decide)]
      unfold svS
      rw [up_ne (fun z => hj z.2), cpSt_n (by omega)]
    have f8i : ρ 8 (i : Int) = 1 := by
      rw [hρ, up_n (by decide)]
      unfold svS
      rw [up_eq]
    have f84 : ∀ a, 84 + 4 * i ≤ a → a ≤ 87 + 4 * i → ρ a = cpSt σ 1 (84 + 4 * i) a := fun a a0 a1 => by
      rw [hρ, up_n (by omega)]
      unfold svS
      rw [up_n (by omega)]
    have fo : ∀ a, 84 ≤ a → a ≤ 91 → a < 84 + 4 * i ∨ 87 + 4 * i < a → ρ a = σ a := fun a a0 a1 a2 => by
      rw [hρ, up_n (by omega)]
      unfold svS
      rw [up_n (by omega), cpSt_n (by omega)]
    have hm2 := saveSnapshot_q (g := g) (l := l') ho (fr 93 (by decide) (by decide) (by decide)) hi
    rw [iv_nf (σ 93 9)] at hm2
    refine ⟨LE2.refl _, Fn.mono hm2 (fun o υ l'' h => ⟨h.1, h.2.2, ?_, fun _ => ?_, ?_⟩)⟩
    · rw [h.2.1, up_n (by decide), cpM_n (by decide), up_eq]
    · rw [h.2.1, up_n (by decide), cpM_n (by decide), up_n (by decide), hρ, up_eq]
    · have e1 := h.2.1
      have u0 : ∀ a, a ≠ 92 → a ≠ 96 → a ≠ 97 → υ a = ρ a := fun a a0 a1 a2 => by rw [e1, up_n a2, cpM_n a1, up_n a0]
      have u92 : ∀ j, j ≠ 6 → υ 92 j = σ 92 j := fun j hj => by rw [e1, up_n (by decide), cpM_n (by decide), up_ne (fun z => hj z.2), fr 92 (by decide) (by decide) (by decide)]
      have us : ∀ a, a ≠ 8 → a < 84 ∨ 91 < a → a ≠ 108 → a ≠ 92 → a ≠ 96 → a ≠ 97 → υ a = σ a := fun a a0 a1 a2 a3 a4 a5 => (u0 a a3 a4 a5).trans (fr a a0 a1 a2)
      have ep : pr υ = pr σ := by funext j k; show υ 95 _ = σ 95 _; rw [us 95 (by decide) (by decide) (by decide) (by decide) (by decide) (by decide)]
      have e93 : υ 93 = σ 93 := us 93 (by decide) (by decide) (by decide) (by decide) (by decide) (by decide)
      have e9 : υ 9 = σ 9 := us 9 (by decide) (by decide) (by decide) (by decide) (by decide) (by decide)
      have e0 : υ 0 = σ 0 := us 0 (by decide) (by decide) (by decide) (by decide) (by decide) (by decide)
      refine Jv.more (B := cB q) ⟨⟨n, ?_, (u92 5 (by decide)).trans hn⟩, fun k hk => ?_, hr.2.1.cg (by rw [e9]) (us 10 (by decide) (by decide) (by decide) (by decide) (by decide) (by decide)) (us 105 (by decide) (by decide) (by decide) (by decide) (by decide) (by decide)) (u92 15 (by decide)), hr.2.2.1.cg (by rw [e9]) (by rw [e9]) (u92 20 (by decide)) (u92 21 (by decide)), hr.2.2.2.cg (by rw [e0]) (us 16 (by decide) (by decide) (by decide) (by decide) (by decide) (by decide)) (u92 25 (by decide)) (us 107 (by decide) (by decide) (by decide) (by decide) (by decide) (by decide))⟩ (cB_le q)
      · rw [ep, e93]
        exact hI.cn (fun a ha => us a (by omega) (by omega) (by omega) (by omega) (by omega) (by omega)) (fun j _ => by rw [e0])
      · have u97 : ∀ j : Int, j ≠ (i : Int) → υ 97 j = σ 97 j := fun j hj => by rw [e1, up_ne (fun z => hj z.2), cpM_n (by decide), up_n (by decide), fr 97 (by decide) (by decide) (by decide)]
        have u97i : υ 97 (i : Int) = 1 := by rw [e1, up_eq]
        have u8 : υ 8 = ρ 8 := u0 8 (by decide) (by decide) (by decide)
        by_cases ck : k = i
        · subst ck
          have hrw : Rw (σ 93) (kr υ k) := by
            intro j j0 j1
            show σ 93 j = υ 96 (67 * (k : Int) + j)
            rw [e1, up_n (by decide), cpM_in ⟨by omega, by omega⟩, up_n (by decide), fr 93 (by decide) (by decide) (by decide)]
            congr 1
            omega
          have hcs : CSt υ (84 + 4 * k) (σ 93) := CSt.frame (σ := cpSt σ 1 (84 + 4 * k)) hc.cp (by rw [u0 _ (by omega) (by omega) (by omega), f84 _ (by omega) (by omega)]) (by rw [u0 _ (by omega) (by omega) (by omega), f84 _ (by omega) (by omega)]) (by rw [u0 _ (by omega) (by omega) (by omega), f84 _ (by omega) (by omega)]) (by rw [u0 _ (by omega) (by omega) (by omega), f84 _ (by omega) (by omega)])
          exact Or.inr ⟨by rw [u8]; exact f8i, u97i, ho.rw hrw, hcs.rw hrw ho.holes.2 ho.notes.2⟩
        · have ck2 : (k : Int) ≠ (i : Int) := by omega
          rw [u8, f8 _ ck2, u97 _ ck2]
          have hrw : Rw (kr σ k) (kr υ k) := by
            intro j j0 j1
            show σ 96 (67 * (k : Int) + j) = υ 96 (67 * (k : Int) + j)
            rw [e1, up_n (by decide), cpM_out (by omega), up_n (by decide), fr 96 (by decide) (by decide) (by decide)]
          rcases hr.1 k hk with h9 | ⟨h1, h2, h3, h4⟩
          · exact Or.inl h9
          · refine Or.inr ⟨h1, h2, h3.rw hrw, CSt.rw ?_ hrw h3.holes.2 h3.notes.2⟩
            exact h4.frame (by rw [u0 _ (by omega) (by omega) (by omega), fo _ (by omega) (by omega) (by omega)]) (by rw [u0 _ (by omega) (by omega) (by omega), fo _ (by omega) (by omega) (by omega)]) (by rw [u0 _ (by omega) (by omega) (by omega), fo _ (by omega) (by omega) (by omega)]) (by rw [u0 _ (by omega) (by omega) (by omega), fo _ (by omega) (by omega) (by omega)])
  · exact LwA.t (Or.inl rfl) r00 hJ (hp_saveSnapshot_t1 (saveSnapshot_bad ha h)) (saveSnapshot_r ho rfl ha h)
theorem st_restoreSnapshot (hJ : Jv (cB q) σ l) {a : Int} (ha : R32 a) : LwA g zL_restoreSnapshot zX6_restoreSnapshot [.ref 0, iv a, .ref 108] [.ref 92, iv a] R32 q σ l := by
  have hJ2 := hJ
  obtain ⟨⟨n, hI, hn⟩, hr⟩ := hJ2
  have hK := hI.K
  have ho := hK.ok
  have hc := hK.st
  have h8 : n ≤ 8 := hI.2.2.2
  have hHI := ho.hI
  have hNI := ho.nI
  have hn40 := ho.notes
  by_cases h : 0 ≤ a ∧ a ≤ 1
  · obtain ⟨i, rfl⟩ : ∃ i : Nat, a = (i : Int) := ⟨a.toNat, by omega⟩
    have hi : i < 2 := by omega
    rcases hr.1 i hi with ⟨h0, h97⟩ | ⟨h1, h97, hS, hCt⟩
    · exact LwA.q hJ (Fq.same hK (restoreSnapshot_no hi h0)) (fun V k n R hV h => hp_restoreSnapshot_ok hV h) (fun τ l' f => restoreSnapshot_f ho (f 93 (by decide) (by decide)) hi (by rw [f 97 (by decide) (by decide)]; exact h97))
    · have hcl : Fs g zX5_restoreSnapshot [.ref 0, iv (i : Int)] σ l (iv (kr σ i 9)) (cB q) (kr σ i) 0 (pr σ) := Fn.mono (restoreSnapshot_ok hi h1 hS hCt) (fun o τ l' h => ⟨h.1, by rw [h.2.1]; exact rplS_mf (by omega), by rw [h.2.1]; exact rplS_ic hI hCt hS (by omega), h.2.2⟩)
      refine LwA.m hJ ⟨Int.le_refl _, cB_le q⟩ (Fs.m hcl) (fun V k n R hV h => hp_restoreSnapshot_ok hV h) (fun τ l' f => ?_)
      have f96 := f 96 (by decide) (by decide)
      refine Fn.mono (restoreSnapshot_q hi (by rw [f 97 (by decide) (by decide)]; exact h97)) (fun o ρ l'' h => ⟨by rw [h.1, f96]; rfl, h.2.2, ⟨fun a a0 a1 a2 a3 => ?_, fun j j0 j1 => ?_, ?_, fun j j0 j1 => ?_, fun j hj => by omega⟩, ?_⟩)
      · rw [h.2.1, up_n a0, cpM_n a1, up_n a0]
      · rw [h.2.1, up_ne (fun z => j0 z.2), cpM_n (by decide), up_ne (fun z => j1 z.2)]
      · rw [h.2.1, up_eq]; rfl
      · rw [h.2.1, up_n (by decide), cpM_in ⟨j0, by omega⟩, up_n (by decide), f96]
        show σ 96 _ = σ 96 _
        congr 1
        omega
      · rw [h.2.1, up_ne (by decide), cpM_n (by decide), up_eq]
  · exact LwA.t (Or.inl rfl) r00 hJ (hp_restoreSnapshot_t1 (restoreSnapshot_bad ha h)) (restoreSnapshot_r ho rfl ha h)
theorem st_writePlay (hJ : Jv (cB q) σ l) {a : Int} (ha : R32 a) : LwA g zL_writePlay zX6_writePlay [.ref 0, iv a, .ref 108] [.ref 92, iv a] R32 q σ l := by
  have hJ2 := hJ
  obtain ⟨⟨n, hI, hn⟩, hr⟩ := hJ2
  have hK := hI.K
  have ho := hK.ok
  have hc := hK.st
  have h8 : n ≤ 8 := hI.2.2.2
  have hHI := ho.hI
  have hNI := ho.nI
  have hn40 := ho.notes
  by_cases h : 0 ≤ a ∧ a < 2 * ((3 ^ wH (σ 93) : Nat) : Int)
  · have hcl := writePlay_ok (g := g) hK ha h
    rw [iv_nf ((wpO (σ 93) a).length : Int)] at hcl
    have hlen : (wpO (σ 93) a).length ≤ 120 := by
      unfold wpO
      have h9 := wpL_len (σ 93) a (wH (σ 93))
      have h7 := ho.h7
      split
      · omega
      · rw [List.length_append]
        show _ + 1 ≤ 120
        omega
    have hcl2 : Fn g zX5_writePlay 0 0 [.ref 0, iv a] σ l (fun o τ l' => o = .inl (some (iv (Int32.ofInt ((wpO (σ 93) a).length : Int)).toInt)) ∧ (Ow σ τ (wpO (σ 93) a) ∧ l' = l)) := hcl
    refine ⟨0, (Int32.ofInt ((wpO (σ 93) a).length : Int)).toInt, l, _, 0, 0, Or.inl rfl, nf_R _, Gr.refl l, Nat.zero_le _, Nat.zero_le _, hp_writePlay_ok (nf_R _) hcl2, ?_⟩
    rintro ω l' ⟨τ, ⟨hO, rfl⟩, rfl⟩
    obtain ⟨ρ, hρ⟩ : ∃ ρ : sT, ρ = up τ 108 0 (Int32.ofInt ((wpO (σ 93) a).length : Int)).toInt := ⟨_, rfl⟩
    rw [← hρ]
    have hm2 := writePlay_q (g := g) (σ := ρ) (l := l') ho (by rw [hρ, up_n (by decide), hO.1 93 (by decide) (by decide)]) h
    rw [iv_nf ((wpO (σ 93) a).length : Int)] at hm2
    refine ⟨LE2.refl _, Fn.mono hm2 (fun o υ l'' h => ⟨h.1, h.2.1, h.2.2.2, fun _ => ?_, ?_⟩)⟩
    · rw [h.2.2.1.1 108 (by decide) (by decide), hρ, up_eq]
    · exact (Jv.w hJ hO (fun a ha => by rw [hρ, up_n ha]) h.2.2.1 hlen).more (cB_le q)
  · exact LwA.t (Or.inl rfl) r00 hJ (hp_writePlay_t1 (writePlay_bad ho hc ha h)) (writePlay_r ho rfl ha h)
theorem s2_lacking (hJ : Jv (cB q) σ l) : LwB g zX5_lacking zX6_lacking [.ref 0] [.ref 92] q σ l (iv (wLkB (σ 93) 25 : Int)) := by
  have hJ2 := hJ
  obtain ⟨⟨n, hI, hn⟩, hr⟩ := hJ2
  have hK := hI.K
  have ho := hK.ok
  have hc := hK.st
  have h8 : n ≤ 8 := hI.2.2.2
  have hHI := ho.hI
  have hNI := ho.nI
  have hn40 := ho.notes
  exact LwB.q hJ (lacking_ok hK) (fun τ l' f => ⟨0, lacking_q ho (f 93 (by decide) (by decide))⟩)
theorem s2_isPlayable (hJ : Jv (cB q) σ l) : LwB g zX5_isPlayable zX6_isPlayable [.ref 0] [.ref 92] q σ l (bv (wLk (σ 93) (wTe (σ 93)) 0 0 = -1)) := by
  have hJ2 := hJ
  obtain ⟨⟨n, hI, hn⟩, hr⟩ := hJ2
  have hK := hI.K
  have ho := hK.ok
  have hc := hK.st
  have h8 : n ≤ 8 := hI.2.2.2
  have hHI := ho.hI
  have hNI := ho.nI
  have hn40 := ho.notes
  exact LwB.q hJ (isPlayable_ok hK) (fun τ l' f => ⟨0, isPlayable_q ho (f 93 (by decide) (by decide))⟩)
theorem s2_firstLacking (hJ : Jv (cB q) σ l) : LwB g zX5_firstLacking zX6_firstLacking [.ref 0] [.ref 92] q σ l (iv (wLk (σ 93) (wTe (σ 93)) 0 0)) := by
  have hJ2 := hJ
  obtain ⟨⟨n, hI, hn⟩, hr⟩ := hJ2
  have hK := hI.K
  have ho := hK.ok
  have hc := hK.st
  have h8 : n ≤ 8 := hI.2.2.2
  have hHI := ho.hI
  have hNI := ho.nI
  have hn40 := ho.notes
  exact LwB.q hJ (firstLacking_ok hK) (fun τ l' f => ⟨0, firstLacking_q ho (f 93 (by decide) (by decide))⟩)
theorem s2_cost (hJ : Jv (cB q) σ l) : LwB g zX5_cost zX6_cost [.ref 0] [.ref 92] q σ l (iv (wTot (σ 93))) := by
  have hJ2 := hJ
  obtain ⟨⟨n, hI, hn⟩, hr⟩ := hJ2
  have hK := hI.K
  have ho := hK.ok
  have hc := hK.st
  have h8 : n ≤ 8 := hI.2.2.2
  have hHI := ho.hI
  have hNI := ho.nI
  have hn40 := ho.notes
  exact LwB.q hJ (cost_ok hK) (fun τ l' f => ⟨0, cost_q ho (f 93 (by decide) (by decide))⟩)
theorem s2_hardest (hJ : Jv (cB q) σ l) : LwB g zX5_hardest zX6_hardest [.ref 0] [.ref 92] q σ l (iv (if wTot (σ 93) = -1 then -1 else wHd (σ 93))) := by
  have hJ2 := hJ
  obtain ⟨⟨n, hI, hn⟩, hr⟩ := hJ2
  have hK := hI.K
  have ho := hK.ok
  have hc := hK.st
  have h8 : n ≤ 8 := hI.2.2.2
  have hHI := ho.hI
  have hNI := ho.nI
  have hn40 := ho.notes
  exact LwB.q hJ (hardest_ok hK) (fun τ l' f => ⟨0, hardest_q ho (f 93 (by decide) (by decide))⟩)
theorem s2_idle (hJ : Jv (cB q) σ l) : LwB g zX5_idle zX6_idle [.ref 0] [.ref 92] q σ l (iv (if wTot (σ 93) = -1 then -1 else wId (σ 93))) := by
  have hJ2 := hJ
  obtain ⟨⟨n, hI, hn⟩, hr⟩ := hJ2
  have hK := hI.K
  have ho := hK.ok
  have hc := hK.st
  have h8 : n ≤ 8 := hI.2.2.2
  have hHI := ho.hI
  have hNI := ho.nI
  have hn40 := ho.notes
  exact LwB.q hJ (idle_ok hK) (fun τ l' f => ⟨0, idle_q ho (f 93 (by decide) (by decide))⟩)
theorem s2_bestBy (hJ : Jv (cB q) σ l) : LwB g zX5_bestBy zX6_bestBy [.ref 0] [.ref 92] q σ l (iv (wBb (σ 93) 13).1) := by
  have hJ2 := hJ
  obtain ⟨⟨n, hI, hn⟩, hr⟩ := hJ2
  have hK := hI.K
  have ho := hK.ok
  have hc := hK.st
  have h8 : n ≤ 8 := hI.2.2.2
  have hHI := ho.hI
  have hNI := ho.nI
  have hn40 := ho.notes
  exact LwB.q hJ (bestBy_ok hK) (fun τ l' f => ⟨0, bestBy_q ho (f 93 (by decide) (by decide))⟩)
theorem s2_level (hJ : Jv (cB q) σ l) : LwB g zX5_level zX6_level [.ref 0] [.ref 92] q σ l (iv (lvO (σ 93) 6 0)) := by
  have hJ2 := hJ
  obtain ⟨⟨n, hI, hn⟩, hr⟩ := hJ2
  have hK := hI.K
  have ho := hK.ok
  have hc := hK.st
  have h8 : n ≤ 8 := hI.2.2.2
  have hHI := ho.hI
  have hNI := ho.nI
  have hn40 := ho.notes
  exact LwB.q hJ (level_ok hK) (fun τ l' f => ⟨0, level_q ho (f 93 (by decide) (by decide))⟩)
theorem s2_meanCost (hJ : Jv (cB q) σ l) : LwB g zX5_meanCost zX6_meanCost [.ref 0] [.ref 92] q σ l (.double (wMc (σ 93))) := by
  have hJ2 := hJ
  obtain ⟨⟨n, hI, hn⟩, hr⟩ := hJ2
  have hK := hI.K
  have ho := hK.ok
  have hc := hK.st
  have h8 : n ≤ 8 := hI.2.2.2
  have hHI := ho.hI
  have hNI := ho.nI
  have hn40 := ho.notes
  exact LwB.q hJ (meanCost_ok hK) (fun τ l' f => ⟨0, meanCost_q ho (f 93 (by decide) (by decide))⟩)
theorem s2_blow0 (hJ : Jv (cB q) σ l) : LwB g zX5_blow zX6_blow [.ref 0, iv 0] [.ref 92, iv 0] q σ l (iv (blS (σ 93))) := by
  have hJ2 := hJ
  obtain ⟨⟨n, hI, hn⟩, hr⟩ := hJ2
  have hK := hI.K
  have ho := hK.ok
  have hc := hK.st
  have h8 : n ≤ 8 := hI.2.2.2
  have hHI := ho.hI
  have hNI := ho.nI
  have hn40 := ho.notes
  exact LwB.m hJ ⟨by omega, Int.le_of_eq (cB_s q)⟩ (blow0_ok hI) (fun τ l' f => by
    have h9 := blow0_q (g := g) (l := l') ho (f 93 (by decide) (by decide)) ((congrFun (f 92 (by decide) (by decide)) 5).trans hn) h8
    rw [prf f] at h9
    exact h9)
theorem s2_blow1 (hJ : Jv (cB q) σ l) : LwB g zX5_blow zX6_blow [.ref 0, iv 1] [.ref 92, iv 1] q σ l (iv (blS (σ 93) + ((3 ^ wH (σ 93) : Nat) : Int))) := by
  have hJ2 := hJ
  obtain ⟨⟨n, hI, hn⟩, hr⟩ := hJ2
  have hK := hI.K
  have ho := hK.ok
  have hc := hK.st
  have h8 : n ≤ 8 := hI.2.2.2
  have hHI := ho.hI
  have hNI := ho.nI
  have hn40 := ho.notes
  exact LwB.m hJ ⟨by omega, Int.le_of_eq (cB_s q)⟩ (blow1_ok hI) (fun τ l' f => by
    have h9 := blow1_q (g := g) (l := l') ho (f 93 (by decide) (by decide)) ((congrFun (f 92 (by decide) (by decide)) 5).trans hn) h8
    rw [prf f] at h9
    exact h9)
theorem s2_step (hJ : Jv (cB q) σ l) : ∃ V : Int, LwB g zX5_step zX6_step [.ref 0] [.ref 92] q σ l (iv V) := by
  have hJ2 := hJ
  obtain ⟨⟨n, hI, hn⟩, hr⟩ := hJ2
  have hK := hI.K
  have ho := hK.ok
  have hc := hK.st
  have h8 : n ≤ 8 := hI.2.2.2
  have hHI := ho.hI
  have hNI := ho.nI
  have hn40 := ho.notes
  by_cases h9 : σ 93 9 = 0
  · refine ⟨-3, ?_⟩
    exact LwB.q hJ (step_no0 hK h9) (fun τ l' f => ⟨0, step_r0 ho (f 93 (by decide) (by decide)) h9⟩)
  · by_cases hl : wLk (σ 93) (wTe (σ 93)) 0 (stK (σ 93)) = -1
    · refine ⟨stP (σ 93), ?_⟩
      have hcl : Fma g zX5_step [.ref 0] σ l (iv (stP (σ 93))) (cB q + 72) (stS (σ 93)) (nP n) (pP n (σ 93) (pr σ)) := by
        by_cases hr0 : wTu (σ 93) (stK (σ 93)) = -1
        · exact step_rest hI h9 hl hr0
        · exact step_note hI h9 hl hr0 (wLk_EP ho h9 hl hr0)
      exact LwB.m hJ ⟨by omega, Int.le_of_eq (cB_s q)⟩ (hcl) (fun τ l' f => by
        have h10 := step_q (g := g) (l := l') ho (f 93 (by decide) (by decide)) ((congrFun (f 92 (by decide) (by decide)) 5).trans hn) h8 h9 hl
        rw [prf f] at h10
        exact h10)
    · refine ⟨-3, ?_⟩
      exact LwB.q hJ (step_no1 hK h9 hl) (fun τ l' f => ⟨0, step_r1 ho (f 93 (by decide) (by decide)) h9 hl⟩)
theorem s2_undo (hJ : Jv (cB q) σ l) : ∃ V : Int, LwB g zX5_undo zX6_undo [.ref 0] [.ref 92] q σ l (iv V) := by
  have hJ2 := hJ
  obtain ⟨⟨n, hI, hn⟩, hr⟩ := hJ2
  have hK := hI.K
  have ho := hK.ok
  have hc := hK.st
  have h8 : n ≤ 8 := hI.2.2.2
  have hHI := ho.hI
  have hNI := ho.nI
  have hn40 := ho.notes
  rcases n with _ | n
  · refine ⟨-1, ?_⟩
    exact LwB.q hJ (Fq.same hK (undo_no hI)) (fun τ l' f => ⟨0, undo_r ho (f 93 (by decide) (by decide)) ((congrFun (f 92 (by decide) (by decide)) 5).trans hn)⟩)
  · refine ⟨(n : Int), ?_⟩
    exact LwB.m hJ ⟨Int.le_refl _, cB_le q⟩ (Fs.m (undo_ok hI)) (fun τ l' f => by
      have h9 := undo_q (g := g) (l := l') ((congrFun (f 92 (by decide) (by decide)) 5).trans hn) h8
      rw [prf f] at h9
      exact h9)
theorem s2_outputByte (hJ : Jv (cB q) σ l) {a : Int} (ha : R32 a) : ∃ V : Int, LwB g zX5_outputByte zX6_outputByte [.ref 0, iv a] [.ref 92, iv a] q σ l (iv V) := by
  have hJ2 := hJ
  obtain ⟨⟨n, hI, hn⟩, hr⟩ := hJ2
  have hK := hI.K
  have ho := hK.ok
  have hc := hK.st
  have h8 : n ≤ 8 := hI.2.2.2
  have hHI := ho.hI
  have hNI := ho.nI
  have hn40 := ho.notes
  obtain ⟨L, d0, d1, d2, d3, d4⟩ := hr.2.2.2
  exact ⟨_, LwB.q hJ (Fq.same hK (outputByte_ok d1 d0 d2 ha)) (fun τ l' f => ⟨0, outputByte_q (by rw [f 92 (by decide) (by decide)]; exact d3) d0 (by rw [f 107 (by decide) (by decide)]; exact d4) ha⟩)⟩
theorem s2_loadError (hJ : Jv (cB q) σ l) : ∃ V : Int, LwB g zX5_loadError zX6_loadError [.ref 0] [.ref 92] q σ l (iv V) := by
  have hJ2 := hJ
  obtain ⟨⟨n, hI, hn⟩, hr⟩ := hJ2
  have hK := hI.K
  have ho := hK.ok
  have hc := hK.st
  have h8 : n ≤ 8 := hI.2.2.2
  have hHI := ho.hI
  have hNI := ho.nI
  have hn40 := ho.notes
  obtain ⟨k, st, c1, c2, c3, c4, c5⟩ := hr.2.2.1
  refine ⟨k, LwB.q hJ (Fq.same hK (loadError_ok c2)) (fun τ l' f => ⟨0, ?_⟩)⟩
  have h9 := loadError_m (g := g) (σ := τ) (l := l')
  rw [f 92 (by decide) (by decide), c4] at h9
  exact Fn.mono h9 (fun o ρ l'' h => ⟨h.1, h.2.2, by rw [h.2.1]; exact md_th (Md.refl _), by rw [h.2.1]; exact up_eq⟩)
theorem s2_loadStatement (hJ : Jv (cB q) σ l) : ∃ V : Int, LwB g zX5_loadStatement zX6_loadStatement [.ref 0] [.ref 92] q σ l (iv V) := by
  have hJ2 := hJ
  obtain ⟨⟨n, hI, hn⟩, hr⟩ := hJ2
  have hK := hI.K
  have ho := hK.ok
  have hc := hK.st
  have h8 : n ≤ 8 := hI.2.2.2
  have hHI := ho.hI
  have hNI := ho.nI
  have hn40 := ho.notes
  obtain ⟨k, st, c1, c2, c3, c4, c5⟩ := hr.2.2.1
  refine ⟨_, LwB.q hJ (Fq.same hK (loadStatement_ok c2 c1 c3)) (fun τ l' f => ⟨0, ?_⟩)⟩
  have h9 := loadStatement_m (g := g) (σ := τ) (l := l')
  rw [f 92 (by decide) (by decide), c5] at h9
  exact Fn.mono h9 (fun o ρ l'' h => ⟨h.1, h.2.2, by rw [h.2.1]; exact md_th (Md.refl _), by rw [h.2.1]; exact up_eq⟩)
theorem s2_writeTune (hJ : Jv (cB q) σ l) : ∃ V : Int, LwB g zX5_writeTune zX6_writeTune [.ref 0] [.ref 92] q σ l (iv V) := by
  have hJ2 := hJ
  obtain ⟨⟨n, hI, hn⟩, hr⟩ := hJ2
  have hK := hI.K
  have ho := hK.ok
  have hc := hK.st
  have h8 : n ≤ 8 := hI.2.2.2
  have hHI := ho.hI
  have hNI := ho.nI
  have hn40 := ho.notes
  have hcl := writeTune_ok (g := g) hK
  have hlen : (wtL (σ 93) (wN (σ 93))).length ≤ 120 := by
    have h9 := wtL_len (σ 93) (wN (σ 93))
    omega
  have hcl2 : Fn g zX5_writeTune 0 0 [.ref 0] σ l (fun o τ l' => o = .inl (some (iv ((wtL (σ 93) (wN (σ 93))).length : Int))) ∧ (Ow σ τ (wtL (σ 93) (wN (σ 93))) ∧ l' = l)) := hcl
  refine ⟨_, l, _, 0, 0, Gr.refl l, Nat.zero_le _, Nat.zero_le _, hcl2, ?_⟩
  rintro τ l' ⟨hO, rfl⟩
  have hm2 := writeTune_q (g := g) (σ := τ) (l := l') ho (hO.1 93 (by decide) (by decide))
  exact ⟨LE2.refl _, Fn.mono hm2 (fun o υ l'' h => ⟨h.1, h.2.1, (Jv.w hJ hO (fun a _ => rfl) h.2.2.1 hlen).more (cB_le q)⟩)⟩
theorem s2_append (hJ : Jv (cB q) σ l) {v : Int64} : ∃ V : Int, LwB g zX5_append zX6_append [.ref 0, .long v] [.ref 92, .long v] q σ l (iv V) := by
  have hJ2 := hJ
  obtain ⟨⟨n, hI, hn⟩, hr⟩ := hJ2
  have hK := hI.K
  have ho := hK.ok
  have hc := hK.st
  have h8 : n ≤ 8 := hI.2.2.2
  have hHI := ho.hI
  have hNI := ho.nI
  have hn40 := ho.notes
  obtain ⟨N, b1, b2, b3, b4⟩ := hr.2.1
  have hcl := append_ok (g := g) (l := l) (v := v) b1 b3 b4
  by_cases hf : N + nzB v 8 ≤ 400
  · have hcl2 : Fn g zX5_append 0 0 [.ref 0, .long v] σ l (fun o τ l' => o = .inl (some (iv ((N + nzB v 8 : Nat) : Int))) ∧ (τ = txS σ (apT (σ 105) N v 8) ((N + nzB v 8 : Nat) : Int) ∧ l' = l)) := Fn.mono hcl (fun o τ l' h => by
      rw [if_pos hf] at h
      exact ⟨h.2.1, h.2.2, h.1⟩)
    refine ⟨_, l, _, 0, 0, Gr.refl l, Nat.zero_le _, Nat.zero_le _, hcl2, ?_⟩
    rintro τ l' ⟨rfl, rfl⟩
    have f : ∀ a, a ≠ 10 → a ≠ 9 → txS σ (apT (σ 105) N v 8) ((N + nzB v 8 : Nat) : Int) a = σ a := fun a a0 a1 => txS_n a0 a1
    have hm2 := append_m (g := g) (σ := txS σ (apT (σ 105) N v 8) ((N + nzB v 8 : Nat) : Int)) (l := l') (v := v) b1 (by rw [f 92 (by decide) (by decide)]; exact b2) (f 105 (by decide) (by decide))
    refine ⟨LE2.refl _, Fn.mono hm2 (fun o υ l'' h => ?_)⟩
    rw [if_pos hf] at h
    obtain ⟨h1, h2, h3⟩ := h
    refine ⟨h2, h1, ?_⟩
    have u0 : ∀ a, a ≠ 105 → a ≠ 92 → υ a = txS σ (apT (σ 105) N v 8) ((N + nzB v 8 : Nat) : Int) a := fun a a0 a1 => by rw [h3, tmS_n a0 a1, up_n a1]
    have us : ∀ a, a ≠ 105 → a ≠ 92 → a ≠ 10 → a ≠ 9 → υ a = σ a := fun a a0 a1 a2 a3 => (u0 a a0 a1).trans (f a a2 a3)
    have u92 : ∀ j, j ≠ 15 → j ≠ 6 → υ 92 j = σ 92 j := fun j j0 j1 => by rw [h3, tmS_92 j0, up_ne (fun z => j1 z.2), f 92 (by decide) (by decide)]
    have u9 : ∀ j, j ≠ 1 → υ 9 j = σ 9 j := fun j j0 => by rw [u0 9 (by decide) (by decide), txS_9 j0]
    have ep : pr υ = pr σ := by funext j k; show υ 95 _ = σ 95 _; rw [us 95 (by decide) (by decide) (by decide) (by decide)]
    have e0 := us 0 (by decide) (by decide) (by decide) (by decide)
    refine Jv.more (B := cB q) ⟨⟨n, ?_, (u92 5 (by decide) (by decide)).trans hn⟩, hr.1.cg (fun a ha => us a (by omega) (by omega) (by omega) (by omega)), ⟨N + nzB v 8, ?_, ?_, ?_, ?_⟩, hr.2.2.1.cg (u9 2 (by decide)) (u9 4 (by decide)) (u92 20 (by decide) (by decide)) (u92 21 (by decide) (by decide)), hr.2.2.2.cg (by rw [e0]) (us 16 (by decide) (by decide) (by decide) (by decide)) (u92 25 (by decide) (by decide)) (us 107 (by decide) (by decide) (by decide) (by decide))⟩ (cB_le q)
    · rw [ep, us 93 (by decide) (by decide) (by decide) (by decide)]
      exact hI.cn (fun a ha => us a (by omega) (by omega) (by omega) (by omega)) (fun j _ => by rw [e0])
    · rw [h3, tmS_105]; exact apT_ok b1 8 (by decide) hf
    · rw [h3, tmS_15]
    · rw [u0 9 (by decide) (by decide), txS_1]
    · rw [u0 10 (by decide) (by decide), txS_10, h3, tmS_105]
  · have hcl2 : Fn g zX5_append 0 0 [.ref 0, .long v] σ l (fun o τ l' => o = .inl (some (iv (-2))) ∧ (τ = σ ∧ l' = l)) := Fn.mono hcl (fun o τ l' h => by
      rw [if_neg hf] at h
      exact ⟨h.2.1, h.2.2, h.1⟩)
    refine ⟨_, l, _, 0, 0, Gr.refl l, Nat.zero_le _, Nat.zero_le _, hcl2, ?_⟩
    rintro τ l' ⟨rfl, rfl⟩
    have hm2 := append_m (g := g) (σ := τ) (l := l') (v := v) b1 b2 rfl
    refine ⟨LE2.refl _, Fn.mono hm2 (fun o υ l'' h => ?_)⟩
    rw [if_neg hf] at h
    refine ⟨h.2.1, h.1, ?_⟩
    rw [h.2.2]
    exact hJ.th.more (cB_le q)
theorem s2_load (hJ : Jv (cB q) σ l) : ∃ V : Int, LwB g zX5_load zX6_load [.ref 0] [.ref 92] q σ l (iv V) := by
  have hJ2 := hJ
  obtain ⟨⟨n, hI, hn⟩, hr⟩ := hJ2
  have hK := hI.K
  have ho := hK.ok
  have hc := hK.st
  have h8 : n ≤ 8 := hI.2.2.2
  have hHI := ho.hI
  have hNI := ho.nI
  have hn40 := ho.notes
  obtain ⟨N, b1, b2, b3, b4⟩ := hr.2.1
  have bT : TX (σ 10) N := by rw [b4]; exact b1
  rcases hra : rAll (σ 105) N with e | d
  · have hcl := load_no (g := g) (l := l) bT b3 (by rw [b4]; exact hra)
    have hcl2 : Fn g zX5_load 0 0 [.ref 0] σ l (fun o τ l' => o = .inl (some (iv (-100 - (e.2.1 : Int)))) ∧ (LdF σ e τ ∧ l' = l)) := Fn.mono hcl (fun o τ l' h => ⟨h.2.1, h.2.2, h.1⟩)
    refine ⟨_, l, _, 0, 0, Gr.refl l, Nat.zero_le _, Nat.zero_le _, hcl2, ?_⟩
    rintro τ l' ⟨⟨f, g1, g2, g4⟩, rfl⟩
    have f105 := f 105 (by decide) (by decide)
    have hm2 := load_mf (g := g) (σ := τ) (l := l') (N := N) (e := e) (by rw [f105]; exact b1) (by rw [f 92 (by decide) (by decide)]; exact b2) (by rw [f105]; exact hra)
    refine ⟨LE2.refl _, Fn.mono hm2 (fun o υ l'' h => ?_)⟩
    obtain ⟨h1, h2, ⟨m1, m2⟩, h5, h93, h6, h15, h20, h21, k1, k4⟩ := h
    refine ⟨h2, h1, ?_⟩
    have us : ∀ a, a ≠ 9 → a < 11 ∨ 15 < a → a ≠ 92 → a ≠ 94 → a ≠ 106 → a ≠ 93 → υ a = σ a := fun a a0 a1 a2 a3 a4 a5 => (m1 a a2 a3 a4 a5).trans (f a a0 a1)
    have u9 : υ 9 = τ 9 := m1 9 (by decide) (by decide) (by decide) (by decide)
    have u92 : ∀ j, j ≠ 5 → j ≠ 6 → j < 15 ∨ 22 < j → υ 92 j = σ 92 j := fun j j0 j1 j2 => (m2 j j0 j1 j2).trans (by rw [f 92 (by decide) (by decide)])
    have ep : pr υ = pr σ := by funext j k; show υ 95 _ = σ 95 _; rw [us 95 (by decide) (by decide) (by decide) (by decide) (by decide) (by decide)]
    have e0 := us 0 (by decide) (by decide) (by decide) (by decide) (by decide) (by decide)
    refine Jv.more (B := cB q) ⟨⟨n, ?_, by rw [h5, f 92 (by decide) (by decide)]; exact hn⟩, hr.1.cg (fun a ha => us a (by omega) (by omega) (by omega) (by omega) (by omega) (by omega)), ⟨0, ⟨by omega, fun j hj => by omega⟩, h15, by rw [u9]; exact g1, ?_⟩, ⟨e.1, e.2.2, ⟨by omega, by omega⟩, by rw [u9]; exact g2, by rw [u9]; exact g4, h20, by rw [if_neg (by omega)]; exact h21⟩, hr.2.2.2.cg (by rw [e0]) (us 16 (by decide) (by decide) (by decide) (by decide) (by decide) (by decide)) (u92 25 (by decide) (by decide) (by decide)) (us 107 (by decide) (by decide) (by decide) (by decide) (by decide) (by decide))⟩ (cB_le q)
    · rw [ep, h93, f 93 (by decide) (by decide)]
      exact hI.cn (fun a ha => us a (by omega) (by omega) (by omega) (by omega) (by omega) (by omega)) (fun j _ => by rw [e0])
    · rw [us 10 (by decide) (by decide) (by decide) (by decide) (by decide) (by decide), us 105 (by decide) (by decide) (by decide) (by decide) (by decide) (by decide)]; exact b4
  · have hcl := load_yes (g := g) (Q := pr σ) hI (show 0 ≤ cB q by unfold cB; omega) bT b3 (by rw [b4]; exact hra)
    have hcl2 : Fn g zX5_load 0 0 [.ref 0] σ l (fun o τ l' => o = .inl (some (iv (d 9))) ∧ ((LdS σ d τ ∧ Ic τ l' (cB q) d 0 (pr σ)) ∧ l' = l)) := Fn.mono hcl (fun o τ l' h => ⟨h.2.1, h.2.2, h.1⟩)
    refine ⟨_, l, _, 0, 0, Gr.refl l, Nat.zero_le _, Nat.zero_le _, hcl2, ?_⟩
    rintro τ l' ⟨⟨⟨f, f0, g1, g2⟩, hI2⟩, rfl⟩
    have ft : ∀ a, a ≠ 0 → a ≠ 9 → a < 1 ∨ 4 < a → a < 11 ∨ 15 < a → τ a = σ a := f
    have f105 := f 105 (by decide) (by decide) (by decide) (by decide)
    have f92 := f 92 (by decide) (by decide) (by decide) (by decide)
    have hm2 := load_my (g := g) (σ := τ) (l := l') (N := N) (d := d) (by rw [f105]; exact b1) (by rw [f92]; exact b2) (by rw [f105]; exact hra)
    refine ⟨LE2.refl _, Fn.mono hm2 (fun o υ l'' h => ?_)⟩
    obtain ⟨h1, h2, ⟨m1, m2⟩, h5, h93, h6, h15, h20, h21, hd⟩ := h
    refine ⟨h2, h1, ?_⟩
    have us : ∀ a, a ≠ 0 → a ≠ 9 → a < 1 ∨ 4 < a → a < 11 ∨ 15 < a → a ≠ 92 → a ≠ 94 → a ≠ 106 → a ≠ 93 → υ a = σ a := fun a b0 a0 b1 a1 a2 a3 a4 a5 => (m1 a a2 a3 a4 a5).trans (f a b0 a0 b1 a1)
    have u9 : υ 9 = τ 9 := m1 9 (by decide) (by decide) (by decide) (by decide)
    have u0 : υ 0 = τ 0 := m1 0 (by decide) (by decide) (by decide) (by decide)
    have u92 : ∀ j, j ≠ 5 → j ≠ 6 → j < 15 ∨ 22 < j → υ 92 j = σ 92 j := fun j j0 j1 j2 => (m2 j j0 j1 j2).trans (by rw [f92])
    refine Jv.more (B := cB q) ⟨⟨0, ?_, by rw [h5]; rfl⟩, hr.1.cg (fun a ha => us a (by omega) (by omega) (by omega) (by omega) (by omega) (by omega) (by omega) (by omega)), ⟨0, ⟨by omega, fun j hj => by omega⟩, h15, by rw [u9]; exact g1, ?_⟩, ⟨0, τ 9 4, ⟨by decide, by decide⟩, by rw [u9]; exact g2, by rw [u9], h20, by rw [if_pos rfl]; exact h21⟩, hr.2.2.2.cg (by rw [u0]; exact f0 9 (by decide) (by decide)) (us 16 (by decide) (by decide) (by decide) (by decide) (by decide) (by decide) (by decide) (by decide)) (u92 25 (by decide) (by decide) (by decide)) (us 107 (by decide) (by decide) (by decide) (by decide) (by decide) (by decide) (by decide) (by decide))⟩ (cB_le q)
    · exact (hI2.cn (τ := υ) (fun a ha => m1 a (by omega) (by omega) (by omega) (by omega)) (fun j _ => by rw [u0])).rw h93.symm (fun j hj => by omega)
    · rw [us 10 (by decide) (by decide) (by decide) (by decide) (by decide) (by decide) (by decide) (by decide), us 105 (by decide) (by decide) (by decide) (by decide) (by decide) (by decide) (by decide) (by decide)]; exact b4
def LwF (g : gT) (a : Int) (c : Nat) (σ : sT) (l : Nat → Nat) : Prop := ∃ (kc : Int) (b : UInt32) (L : Nat → Nat) (RC : sT → (Nat → Nat) → Prop) (k2 n2 : Nat), (kc = 0 ∨ kc = 1) ∧ (kc = 0 → vf_n64 (FP.f2d b)) ∧ Gr l L 0 0 ∧ k2 ≤ pcL l - pcL L + 1 ∧ n2 ≤ psL l - psL L + 6 ∧ Fn g zL_fingering k2 n2 [.ref 0, iv a, .ref 109] σ l (fun o τ l' => o = .inl (some (iv kc)) ∧ RC τ l') ∧ ∀ τ l', RC τ l' → LE2 L l' ∧ Fn g zX6_fingering 0 0 [.ref 92, iv a] τ l' (fun o ω l'' => o = .inl (some (.float b)) ∧ l'' = l' ∧ ω 92 6 = kc ∧ (kc = 0 → ω 109 0 = ((FP.f2d b).toNat : Int)) ∧ Jv (cB (c + 1)) ω l')
theorem wFg_n {B : Int} {s : Int → Int} (ho : SOK B s) (t : Int) : vf_n64 (FP.f2d (wFg s t)) := by
  have hp := p3_le ho.h7
  have hc := cnI_rng (wT s) t (2 * 3 ^ wH s)
  have hl : (wEt s t).length ≤ 4374 := by
    unfold wEt EP
    split
    · have h1 := EL_len (wTe s) t (2 * 3 ^ wH s)
      have h2 := cnI_rng (wTe s) t (2 * 3 ^ wH s)
      omega
    · exact Nat.zero_le _
  unfold wFg
  split
  · exact nf2d (by unfold vf_n32; decide +kernel)
  · exact nf2d (nn32 ⟨by omega, by omega⟩ ⟨by omega, by omega⟩)
theorem st_fingering (hJ : Jv (cB q) σ l) {a : Int} (ha : R32 a) : LwF g a q σ l := by
  have hJ2 := hJ
  obtain ⟨⟨n, hI, hn⟩, hr⟩ := hJ2
  have hK := hI.K
  have ho := hK.ok
  have hc := hK.st
  have h8 : n ≤ 8 := hI.2.2.2
  have hHI := ho.hI
  have hNI := ho.nI
  have hn40 := ho.notes
  by_cases h : 0 ≤ a ∧ a ≤ 24
  · obtain ⟨L, hG, hF⟩ := fingering_ok (g := g) hK ha h
    refine ⟨0, _, L, _, _, _, Or.inl rfl, fun _ => wFg_n ho a, hG, Nat.le_succ _, Nat.le_add_right _ _, hp_fingering_ok (wFg_n ho a) hF, ?_⟩
    rintro ω l' ⟨τ, ⟨hq, hK2, hL⟩, rfl⟩
    have hf := MF.ofQ hq
    have hm2 := fingering_q (g := g) (σ := up τ 109 0 ((FP.f2d (wFg (σ 93) a)).toNat : Int)) (l := l') ho (by rw [up_n (by decide)]; exact hf.1 93 (by decide) (by decide)) h
    exact ⟨hL, Fn.mono hm2 (fun o ρ l'' h => ⟨h.1, h.2.1, h.2.2.2, fun _ => by rw [h.2.2.1.1 109 (by decide) (by decide), up_eq], ((hJ.q hq hK2).u9.md h.2.2.1).more (cB_le q)⟩)⟩
  · refine ⟨1, FP.fconst0, l, fun ω l' => ω = σ ∧ l' = l, 1, 6, Or.inr rfl, fun z => by omega, Gr.refl l, by omega, by omega, hp_fingering_t1 (fingering_bad ho hc ha h), ?_⟩
    rintro ω l' ⟨rfl, rfl⟩
    exact ⟨LE2.refl _, Fn.mono (fingering_r ho rfl ha h) (fun o ρ l'' h => ⟨h.1, h.2.1, h.2.2.2, fun z => by omega, (hJ.md h.2.2.1).more (cB_le q)⟩)⟩
end C94
