/-! Each pair of calls -/
section C94
variable {g : gT} {σ : sT} {l : Nat → Nat} {q : Nat}
theorem r00 : R32 0 := ⟨by decide, by decide⟩
theorem coD0 (m h : Int) (H : Nat) (p q : Int) : coD m h 0 H p q = dC m h H p q := by
  unfold coD
  split <;> omega
theorem st_size (hJ : Jv (cB q) σ l) {a : Int} (ha : R32 a) : Stp g zL_size zX6_size [.ref 0, iv a, .ref 108] [.ref 92, iv a] R32 q σ l := by
  have hJ2 := hJ
  obtain ⟨⟨n, hI, hn⟩, hr⟩ := hJ2
  have hK := hI.K
  have ho := hK.ok
  have hc := hK.st
  have h8 : n ≤ 8 := hI.2.2.2
  have hHI := ho.hI
  have hNI := ho.nI
  have hn40 := ho.notes
  by_cases h : 0 ≤ a ∧ a ≤ 15
  · exact Stp.q hJ (Fq.same hK (size_ok hK h hI.2.2.1)) (fun V k n R hV h => hp_size_ok hV h) (fun τ l' f => size_q ho (f 93 (by decide) (by decide)) h ((congrFun (f 92 (by decide) (by decide)) 5).trans hn))
  · exact Stp.t (Or.inl rfl) r00 hJ (hp_size_t1 (size_bad ho hc ha h)) (size_r ho rfl ha h)
theorem st_hole (hJ : Jv (cB q) σ l) {a b : Int} (ha : R32 a) (hb : R32 b) : Stp g zL_hole zX6_hole [.ref 0, iv a, iv b, .ref 108] [.ref 92, iv a, iv b] R32 q σ l := by
  have hJ2 := hJ
  obtain ⟨⟨n, hI, hn⟩, hr⟩ := hJ2
  have hK := hI.K
  have ho := hK.ok
  have hc := hK.st
  have h8 : n ≤ 8 := hI.2.2.2
  have hHI := ho.hI
  have hNI := ho.nI
  have hn40 := ho.notes
  by_cases h : 0 ≤ a ∧ a < σ 93 3
  · by_cases h2 : 0 ≤ b ∧ b ≤ 2
    · obtain ⟨i, rfl⟩ : ∃ i : Nat, a = (i : Int) := ⟨a.toNat, by omega⟩
      exact Stp.q hJ (Fq.same hK (hole_ok hK ha hb h h2)) (fun V k n R hV h => hp_hole_ok hV h) (fun τ l' f => hole_q ho (f 93 (by decide) (by decide)) hb (by omega) h2)
    · exact Stp.t (Or.inr rfl) r00 hJ (hp_hole_t2 (hole_bad2 ho hc ha hb h h2)) (hole_r2 ho rfl ha hb h h2)
  · exact Stp.t (Or.inl rfl) r00 hJ (hp_hole_t1 (hole_bad1 ho hc ha h)) (hole_r1 ho rfl ha hb h)
theorem st_covered (hJ : Jv (cB q) σ l) {a b : Int} (ha : R32 a) (hb : R32 b) : Stp g zL_covered zX6_covered [.ref 0, iv a, iv b, .ref 108] [.ref 92, iv a, iv b] R32 q σ l := by
  have hJ2 := hJ
  obtain ⟨⟨n, hI, hn⟩, hr⟩ := hJ2
  have hK := hI.K
  have ho := hK.ok
  have hc := hK.st
  have h8 : n ≤ 8 := hI.2.2.2
  have hHI := ho.hI
  have hNI := ho.nI
  have hn40 := ho.notes
  by_cases h : 0 ≤ a ∧ a < 2 * ((3 ^ wH (σ 93) : Nat) : Int)
  · by_cases h2 : 0 ≤ b ∧ b < σ 93 3
    · obtain ⟨i, rfl⟩ : ∃ i : Nat, b = (i : Int) := ⟨b.toNat, by omega⟩
      exact Stp.q hJ (Fq.same hK (covered_ok hK ha hb h h2)) (fun V k n R hV h => hp_covered_ok hV h) (fun τ l' f => covered_q ho (f 93 (by decide) (by decide)) h (by omega))
    · exact Stp.t (Or.inl rfl) r00 hJ (hp_covered_t1 (covered_bad2 ho hc ha hb h h2)) (covered_r ho rfl ha hb (fun z => h2 z.2))
  · exact Stp.t (Or.inl rfl) r00 hJ (hp_covered_t1 (covered_bad1 ho hc ha h)) (covered_r ho rfl ha hb (fun z => h z.1))
theorem st_sounding (hJ : Jv (cB q) σ l) {a : Int} (ha : R32 a) : Stp g zL_sounding zX6_sounding [.ref 0, iv a, .ref 108] [.ref 92, iv a] R32 q σ l := by
  have hJ2 := hJ
  obtain ⟨⟨n, hI, hn⟩, hr⟩ := hJ2
  have hK := hI.K
  have ho := hK.ok
  have hc := hK.st
  have h8 : n ≤ 8 := hI.2.2.2
  have hHI := ho.hI
  have hNI := ho.nI
  have hn40 := ho.notes
  by_cases h : 0 ≤ a ∧ a < 2 * ((3 ^ wH (σ 93) : Nat) : Int)
  · exact Stp.q hJ (sounding_ok hK ha h) (fun V k n R hV h => hp_sounding_ok hV h) (fun τ l' f => sounding_q ho (f 93 (by decide) (by decide)) ha h)
  · exact Stp.t (Or.inl rfl) r00 hJ (hp_sounding_t1 (sounding_bad ho hc ha h)) (sounding_r ho rfl ha h)
theorem st_cents (hJ : Jv (cB q) σ l) {a : Int} (ha : R32 a) : Stp g zL_cents zX6_cents [.ref 0, iv a, .ref 108] [.ref 92, iv a] R32 q σ l := by
  have hJ2 := hJ
  obtain ⟨⟨n, hI, hn⟩, hr⟩ := hJ2
  have hK := hI.K
  have ho := hK.ok
  have hc := hK.st
  have h8 : n ≤ 8 := hI.2.2.2
  have hHI := ho.hI
  have hNI := ho.nI
  have hn40 := ho.notes
  by_cases h : 0 ≤ a ∧ a < 2 * ((3 ^ wH (σ 93) : Nat) : Int)
  · exact Stp.q hJ (cents_ok hK ha h) (fun V k n R hV h => hp_cents_ok hV h) (fun τ l' f => cents_q ho (f 93 (by decide) (by decide)) ha h)
  · exact Stp.t (Or.inl rfl) r00 hJ (hp_cents_t1 (cents_bad ho hc ha h)) (cents_r ho rfl ha h)
theorem st_tone (hJ : Jv (cB q) σ l) {a : Int} (ha : R32 a) : Stp g zL_tone zX6_tone [.ref 0, iv a, .ref 108] [.ref 92, iv a] R32 q σ l := by
  have hJ2 := hJ
  obtain ⟨⟨n, hI, hn⟩, hr⟩ := hJ2
  have hK := hI.K
  have ho := hK.ok
  have hc := hK.st
  have h8 : n ≤ 8 := hI.2.2.2
  have hHI := ho.hI
  have hNI := ho.nI
  have hn40 := ho.notes
  by_cases h : 0 ≤ a ∧ a < 2 * ((3 ^ wH (σ 93) : Nat) : Int)
  · exact Stp.q hJ (tone_ok hK ha h) (fun V k n R hV h => hp_tone_ok hV h) (fun τ l' f => tone_q ho (f 93 (by decide) (by decide)) ha h)
  · exact Stp.t (Or.inl rfl) r00 hJ (hp_tone_t1 (tone_bad ho hc ha h)) (tone_r ho rfl ha h)
theorem st_off (hJ : Jv (cB q) σ l) {a : Int} (ha : R32 a) : Stp g zL_off zX6_off [.ref 0, iv a, .ref 108] [.ref 92, iv a] R32 q σ l := by
  have hJ2 := hJ
  obtain ⟨⟨n, hI, hn⟩, hr⟩ := hJ2
  have hK := hI.K
  have ho := hK.ok
  have hc := hK.st
  have h8 : n ≤ 8 := hI.2.2.2
  have hHI := ho.hI
  have hNI := ho.nI
  have hn40 := ho.notes
  by_cases h : 0 ≤ a ∧ a < 2 * ((3 ^ wH (σ 93) : Nat) : Int)
  · exact Stp.q hJ (off_ok hK ha h) (fun V k n R hV h => hp_off_ok hV h) (fun τ l' f => off_q ho (f 93 (by decide) (by decide)) ha h)
  · exact Stp.t (Or.inl rfl) r00 hJ (hp_off_t1 (off_bad ho hc ha h)) (off_r ho rfl ha h)
theorem st_halves (hJ : Jv (cB q) σ l) {a : Int} (ha : R32 a) : Stp g zL_halves zX6_halves [.ref 0, iv a, .ref 108] [.ref 92, iv a] R32 q σ l := by
  have hJ2 := hJ
  obtain ⟨⟨n, hI, hn⟩, hr⟩ := hJ2
  have hK := hI.K
  have ho := hK.ok
  have hc := hK.st
  have h8 : n ≤ 8 := hI.2.2.2
  have hHI := ho.hI
  have hNI := ho.nI
  have hn40 := ho.notes
  by_cases h : 0 ≤ a ∧ a < 2 * ((3 ^ wH (σ 93) : Nat) : Int)
  · exact Stp.q hJ (halves_ok hK ha h) (fun V k n R hV h => hp_halves_ok hV h) (fun τ l' f => halves_q ho (f 93 (by decide) (by decide)) ha h)
  · exact Stp.t (Or.inl rfl) r00 hJ (hp_halves_t1 (halves_bad ho hc ha h)) (halves_r ho rfl ha h)
theorem st_crosses (hJ : Jv (cB q) σ l) {a : Int} (ha : R32 a) : Stp g zL_crosses zX6_crosses [.ref 0, iv a, .ref 108] [.ref 92, iv a] R32 q σ l := by
  have hJ2 := hJ
  obtain ⟨⟨n, hI, hn⟩, hr⟩ := hJ2
  have hK := hI.K
  have ho := hK.ok
  have hc := hK.st
  have h8 : n ≤ 8 := hI.2.2.2
  have hHI := ho.hI
  have hNI := ho.nI
  have hn40 := ho.notes
  by_cases h : 0 ≤ a ∧ a < 2 * ((3 ^ wH (σ 93) : Nat) : Int)
  · exact Stp.q hJ (crosses_ok hK ha h) (fun V k n R hV h => hp_crosses_ok hV h) (fun τ l' f => crosses_q ho (f 93 (by decide) (by decide)) ha h)
  · exact Stp.t (Or.inl rfl) r00 hJ (hp_crosses_t1 (crosses_bad ho hc ha h)) (crosses_r ho rfl ha h)
theorem st_isEasy (hJ : Jv (cB q) σ l) {a : Int} (ha : R32 a) : Stp g zL_isEasy zX6_isEasy [.ref 0, iv a, .ref 108] [.ref 92, iv a] (fun b => b = 0 ∨ b = 1) q σ l := by
  have hJ2 := hJ
  obtain ⟨⟨n, hI, hn⟩, hr⟩ := hJ2
  have hK := hI.K
  have ho := hK.ok
  have hc := hK.st
  have h8 : n ≤ 8 := hI.2.2.2
  have hHI := ho.hI
  have hNI := ho.nI
  have hn40 := ho.notes
  by_cases h : 0 ≤ a ∧ a < 2 * ((3 ^ wH (σ 93) : Nat) : Int)
  · refine Stp.z ?_ hJ (isEasy_ok hK ha h) (fun V k n R hV h => hp_isEasy_ok hV h) (fun τ l' f => isEasy_q ho (f 93 (by decide) (by decide)) ha h)
    split
    · exact Or.inr rfl
    · exact Or.inl rfl
  · exact Stp.t (Or.inl rfl) (Or.inl rfl) hJ (hp_isEasy_t1 (isEasy_bad ho hc ha h)) (isEasy_r ho rfl ha h)
theorem st_plays (hJ : Jv (cB q) σ l) {a : Int} (ha : R32 a) : Stp g zL_plays zX6_plays [.ref 0, iv a, .ref 108] [.ref 92, iv a] R32 q σ l := by
  have hJ2 := hJ
  obtain ⟨⟨n, hI, hn⟩, hr⟩ := hJ2
  have hK := hI.K
  have ho := hK.ok
  have hc := hK.st
  have h8 : n ≤ 8 := hI.2.2.2
  have hHI := ho.hI
  have hNI := ho.nI
  have hn40 := ho.notes
  by_cases h : 0 ≤ a ∧ a < 25
  · exact Stp.q hJ (plays_ok hK ha h) (fun V k n R hV h => hp_plays_ok hV h) (fun τ l' f => plays_q ho (f 93 (by decide) (by decide)) ha (by omega))
  · exact Stp.t (Or.inl rfl) r00 hJ (hp_plays_t1 (plays_bad ho hc ha h)) (plays_r ho rfl ha (by omega))
theorem st_playOf (hJ : Jv (cB q) σ l) {a b : Int} (ha : R32 a) (hb : R32 b) : Stp g zL_playOf zX6_playOf [.ref 0, iv a, iv b, .ref 108] [.ref 92, iv a, iv b] R32 q σ l := by
  have hJ2 := hJ
  obtain ⟨⟨n, hI, hn⟩, hr⟩ := hJ2
  have hK := hI.K
  have ho := hK.ok
  have hc := hK.st
  have h8 : n ≤ 8 := hI.2.2.2
  have hHI := ho.hI
  have hNI := ho.nI
  have hn40 := ho.notes
  by_cases h : 0 ≤ a ∧ a < 25
  · exact Stp.q hJ (playOf_ok hK ha h hb) (fun V k n R hV h => hp_playOf_ok hV h) (fun τ l' f => playOf_q ho (f 93 (by decide) (by decide)) ha hb (by omega))
  · exact Stp.t (Or.inl rfl) r00 hJ (hp_playOf_t1 (playOf_bad ho hc ha h)) (playOf_r ho rfl ha hb (by omega))
theorem st_truest (hJ : Jv (cB q) σ l) {a : Int} (ha : R32 a) : Stp g zL_truest zX6_truest [.ref 0, iv a, .ref 108] [.ref 92, iv a] R32 q σ l := by
  have hJ2 := hJ
  obtain ⟨⟨n, hI, hn⟩, hr⟩ := hJ2
  have hK := hI.K
  have ho := hK.ok
  have hc := hK.st
  have h8 : n ≤ 8 := hI.2.2.2
  have hHI := ho.hI
  have hNI := ho.nI
  have hn40 := ho.notes
  by_cases h : 0 ≤ a ∧ a < 25
  · exact Stp.q hJ (truest_ok hK ha h) (fun V k n R hV h => hp_truest_ok hV h) (fun τ l' f => truest_q ho (f 93 (by decide) (by decide)) (by omega))
  · exact Stp.t (Or.inl rfl) r00 hJ (hp_truest_t1 (truest_bad ho hc ha h)) (truest_r ho rfl ha (by omega))
theorem st_nearest (hJ : Jv (cB q) σ l) {a : Int} (ha : R32 a) : Stp g zL_nearest zX6_nearest [.ref 0, iv a, .ref 108] [.ref 92, iv a] R32 q σ l := by
  have hJ2 := hJ
  obtain ⟨⟨n, hI, hn⟩, hr⟩ := hJ2
  have hK := hI.K
  have ho := hK.ok
  have hc := hK.st
  have h8 : n ≤ 8 := hI.2.2.2
  have hHI := ho.hI
  have hNI := ho.nI
  have hn40 := ho.notes
  by_cases h : 0 ≤ a ∧ a < 25
  · exact Stp.q hJ (nearest_ok hK ha h) (fun V k n R hV h => hp_nearest_ok hV h) (fun τ l' f => nearest_q ho (f 93 (by decide) (by decide)) (by omega))
  · exact Stp.t (Or.inl rfl) r00 hJ (hp_nearest_t1 (nearest_bad ho hc ha h)) (nearest_r ho rfl ha (by omega))
theorem st_change (hJ : Jv (cB q) σ l) {a b : Int} (ha : R32 a) (hb : R32 b) : Stp g zL_change zX6_change [.ref 0, iv a, iv b, .ref 108] [.ref 92, iv a, iv b] R32 q σ l := by
  have hJ2 := hJ
  obtain ⟨⟨n, hI, hn⟩, hr⟩ := hJ2
  have hK := hI.K
  have ho := hK.ok
  have hc := hK.st
  have h8 : n ≤ 8 := hI.2.2.2
  have hHI := ho.hI
  have hNI := ho.nI
  have hn40 := ho.notes
  by_cases h : 0 ≤ a ∧ a < 2 * ((3 ^ wH (σ 93) : Nat) : Int)
  · by_cases h2 : 0 ≤ b ∧ b < 2 * ((3 ^ wH (σ 93) : Nat) : Int)
    · exact Stp.q hJ (change_ok hK ha hb h h2) (fun V k n R hV h => hp_change_ok hV h) (fun τ l' f => change_q ho (f 93 (by decide) (by decide)) ha hb ⟨h, h2⟩)
    · exact Stp.t (Or.inl rfl) r00 hJ (hp_change_t1 (change_bad2 ho hc ha hb h h2)) (change_r ho rfl ha hb (fun z => h2 z.2))
  · exact Stp.t (Or.inl rfl) r00 hJ (hp_change_t1 (change_bad1 ho hc ha h)) (change_r ho rfl ha hb (fun z => h z.1))
theorem st_fingers (hJ : Jv (cB q) σ l) {a b : Int} (ha : R32 a) (hb : R32 b) : Stp g zL_fingers zX6_fingers [.ref 0, iv a, iv b, .ref 108] [.ref 92, iv a, iv b] R32 q σ l := by
  have hJ2 := hJ
  obtain ⟨⟨n, hI, hn⟩, hr⟩ := hJ2
  have hK := hI.K
  have ho := hK.ok
  have hc := hK.st
  have h8 : n ≤ 8 := hI.2.2.2
  have hHI := ho.hI
  have hNI := ho.nI
  have hn40 := ho.notes
  by_cases h : 0 ≤ a ∧ a < 2 * ((3 ^ wH (σ 93) : Nat) : Int)
  · by_cases h2 : 0 ≤ b ∧ b < 2 * ((3 ^ wH (σ 93) : Nat) : Int)
    · have h9 := fingers_ok (g := g) hK ha hb h h2
      rw [coD0] at h9
      exact Stp.q hJ (h9) (fun V k n R hV h => hp_fingers_ok hV h) (fun τ l' f => fingers_q ho (f 93 (by decide) (by decide)) ha hb ⟨h, h2⟩)
    · exact Stp.t (Or.inl rfl) r00 hJ (hp_fingers_t1 (fingers_bad2 ho hc ha hb h h2)) (fingers_r ho rfl ha hb (fun z => h2 z.2))
  · exact Stp.t (Or.inl rfl) r00 hJ (hp_fingers_t1 (fingers_bad1 ho hc ha h)) (fingers_r ho rfl ha hb (fun z => h z.1))
theorem st_note (hJ : Jv (cB q) σ l) {a : Int} (ha : R32 a) : Stp g zL_note zX6_note [.ref 0, iv a, .ref 108] [.ref 92, iv a] R32 q σ l := by
  have hJ2 := hJ
  obtain ⟨⟨n, hI, hn⟩, hr⟩ := hJ2
  have hK := hI.K
  have ho := hK.ok
  have hc := hK.st
  have h8 : n ≤ 8 := hI.2.2.2
  have hHI := ho.hI
  have hNI := ho.nI
  have hn40 := ho.notes
  by_cases h : 0 ≤ a ∧ a < σ 93 9
  · exact Stp.q hJ (Fq.same hK (note_ok hK ha h)) (fun V k n R hV h => hp_note_ok hV h) (fun τ l' f => note_q ho (f 93 (by decide) (by decide)) ha h)
  · exact Stp.t (Or.inl rfl) r00 hJ (hp_note_t1 (note_bad ho hc ha h)) (note_r ho rfl ha h)
theorem st_wayPlay (hJ : Jv (cB q) σ l) {a : Int} (ha : R32 a) : Stp g zL_wayPlay zX6_wayPlay [.ref 0, iv a, .ref 108] [.ref 92, iv a] R32 q σ l := by
  have hJ2 := hJ
  obtain ⟨⟨n, hI, hn⟩, hr⟩ := hJ2
  have hK := hI.K
  have ho := hK.ok
  have hc := hK.st
  have h8 : n ≤ 8 := hI.2.2.2
  have hHI := ho.hI
  have hNI := ho.nI
  have hn40 := ho.notes
  by_cases h : 0 ≤ a ∧ a < σ 93 9
  · obtain ⟨i, rfl⟩ : ∃ i : Nat, a = (i : Int) := ⟨a.toNat, by omega⟩
    have hi : i < wN (σ 93) := by omega
    exact Stp.q hJ (wayPlay_ok hK hi) (fun V k n R hV h => hp_wayPlay_ok hV h) (fun τ l' f => wayPlay_q ho (f 93 (by decide) (by decide)) hi)
  · exact Stp.t (Or.inl rfl) r00 hJ (hp_wayPlay_t1 (wayPlay_bad ho hc ha h)) (wayPlay_r ho rfl ha h)
theorem st_wayChange (hJ : Jv (cB q) σ l) {a : Int} (ha : R32 a) : Stp g zL_wayChange zX6_wayChange [.ref 0, iv a, .ref 108] [.ref 92, iv a] R32 q σ l := by
  have hJ2 := hJ
  obtain ⟨⟨n, hI, hn⟩, hr⟩ := hJ2
  have hK := hI.K
  have ho := hK.ok
  have hc := hK.st
  have h8 : n ≤ 8 := hI.2.2.2
  have hHI := ho.hI
  have hNI := ho.nI
  have hn40 := ho.notes
  by_cases h : 0 ≤ a ∧ a < σ 93 9
  · obtain ⟨i, rfl⟩ : ∃ i : Nat, a = (i : Int) := ⟨a.toNat, by omega⟩
    have hi : i < wN (σ 93) := by omega
    exact Stp.q hJ (wayChange_ok hK hi) (fun V k n R hV h => hp_wayChange_ok hV h) (fun τ l' f => wayChange_q ho (f 93 (by decide) (by decide)) hi)
  · exact Stp.t (Or.inl rfl) r00 hJ (hp_wayChange_t1 (wayChange_bad ho hc ha h)) (wayChange_r ho rfl ha h)
theorem st_moved (hJ : Jv (cB q) σ l) {a : Int} (ha : R32 a) : Stp g zL_moved zX6_moved [.ref 0, iv a, .ref 108] [.ref 92, iv a] R32 q σ l := by
  have hJ2 := hJ
  obtain ⟨⟨n, hI, hn⟩, hr⟩ := hJ2
  have hK := hI.K
  have ho := hK.ok
  have hc := hK.st
  have h8 : n ≤ 8 := hI.2.2.2
  have hHI := ho.hI
  have hNI := ho.nI
  have hn40 := ho.notes
  by_cases h : 0 ≤ a ∧ a < σ 93 3
  · obtain ⟨i, rfl⟩ : ∃ i : Nat, a = (i : Int) := ⟨a.toNat, by omega⟩
    have hi : i < wH (σ 93) := by omega
    exact Stp.q hJ (moved_ok hK hi) (fun V k n R hV h => hp_moved_ok hV h) (fun τ l' f => moved_q ho (f 93 (by decide) (by decide)) hi)
  · exact Stp.t (Or.inl rfl) r00 hJ (hp_moved_t1 (moved_bad ho hc ha h)) (moved_r ho rfl ha h)
theorem st_costBy (hJ : Jv (cB q) σ l) {a : Int} (ha : R32 a) : Stp g zL_costBy zX6_costBy [.ref 0, iv a, .ref 108] [.ref 92, iv a] R32 q σ l := by
  have hJ2 := hJ
  obtain ⟨⟨n, hI, hn⟩, hr⟩ := hJ2
  have hK := hI.K
  have ho := hK.ok
  have hc := hK.st
  have h8 : n ≤ 8 := hI.2.2.2
  have hHI := ho.hI
  have hNI := ho.nI
  have hn40 := ho.notes
  by_cases h : -12 ≤ a ∧ a ≤ 12
  · exact Stp.q hJ (costBy_ok hK ha h) (fun V k n R hV h => hp_costBy_ok hV h) (fun τ l' f => costBy_q ho (f 93 (by decide) (by decide)) h)
  · exact Stp.t (Or.inl rfl) r00 hJ (hp_costBy_t1 (costBy_bad ho hc ha h)) (costBy_r ho rfl ha h)
theorem st_costWith (hJ : Jv (cB q) σ l) {a b : Int} (ha : R32 a) (hb : R32 b) : Stp g zL_costWith zX6_costWith [.ref 0, iv a, iv b, .ref 108] [.ref 92, iv a, iv b] R32 q σ l := by
  have hJ2 := hJ
  obtain ⟨⟨n, hI, hn⟩, hr⟩ := hJ2
  have hK := hI.K
  have ho := hK.ok
  have hc := hK.st
  have h8 : n ≤ 8 := hI.2.2.2
  have hHI := ho.hI
  have hNI := ho.nI
  have hn40 := ho.notes
  by_cases h : (0 ≤ a ∧ a ≤ 2) ∧ 0 ≤ b ∧ b ≤ 3
  · exact Stp.q hJ (costWith_ok hK ha hb h) (fun V k n R hV h => hp_costWith_ok hV h) (fun τ l' f => costWith_q ho (f 93 (by decide) (by decide)) ha hb h)
  · exact Stp.t (Or.inl rfl) r00 hJ (hp_costWith_t1 (costWith_bad ha hb h)) (costWith_r ho rfl ha hb h)
theorem st_setHole (hJ : Jv (cB q) σ l) {a b d : Int} (ha : R32 a) (hb : R32 b) (hd : R32 d) : Stp g zL_setHole zX6_setHole [.ref 0, iv a, iv b, iv d, .ref 108] [.ref 92, iv a, iv b, iv d] R32 q σ l := by
  have hJ2 := hJ
  obtain ⟨⟨n, hI, hn⟩, hr⟩ := hJ2
  have hK := hI.K
  have ho := hK.ok
  have hc := hK.st
  have h8 : n ≤ 8 := hI.2.2.2
  have hHI := ho.hI
  have hNI := ho.nI
  have hn40 := ho.notes
  by_cases h : 0 ≤ a ∧ a < σ 93 3
  · by_cases h2 : (1 ≤ b ∧ b ≤ σ 93 0 - 1) ∧ 2 ≤ d ∧ d ≤ 15
    · obtain ⟨i, rfl⟩ : ∃ i : Nat, a = (i : Int) := ⟨a.toNat, by omega⟩
      have hi : i < wH (σ 93) := by omega
      by_cases h3 : (((i : Int) = 0 ∨ wPl (σ 93) ((i : Int) - 1) < b) ∧ ((i : Int) = σ 93 3 - 1 ∨ b < wPl (σ 93) ((i : Int) + 1)))
      · exact Stp.m hJ ⟨Int.le_refl _, cB_le q⟩ (Fs.m (setHole_ok hI hi hb hd h2.1 h2.2 h3)) (fun V k n R hV h => hp_setHole_ok hV h) (fun τ l' f => by
          have h9 := setHole_q ho (f 93 (by decide) (by decide)) ((congrFun (f 92 (by decide) (by decide)) 5).trans hn) h8 hi h2.1 h2.2 h3
          rw [prf f] at h9
          exact h9)
      · exact Stp.q hJ (Fq.same hK (setHole_no ho hc hi hb hd h2.1 h2.2 h3)) (fun V k n R hV h => hp_setHole_ok hV h) (fun τ l' f => setHole_f ho (f 93 (by decide) (by decide)) hi h2.1 h2.2 h3)
    · exact Stp.t (Or.inr rfl) r00 hJ (hp_setHole_t2 (setHole_bad2 ho hc ha hb hd h h2)) (setHole_r2 ho rfl ha hb hd h h2)
  · exact Stp.t (Or.inl rfl) r00 hJ (hp_setHole_t1 (setHole_bad1 ho hc ha h)) (setHole_r1 ho rfl ha hb hd h)
theorem st_setLimits (hJ : Jv (cB q) σ l) {a b : Int} (ha : R32 a) (hb : R32 b) : Stp g zL_setLimits zX6_setLimits [.ref 0, iv a, iv b, .ref 108] [.ref 92, iv a, iv b] R32 q σ l := by
  have hJ2 := hJ
  obtain ⟨⟨n, hI, hn⟩, hr⟩ := hJ2
  have hK := hI.K
  have ho := hK.ok
  have hc := hK.st
  have h8 : n ≤ 8 := hI.2.2.2
  have hHI := ho.hI
  have hNI := ho.nI
  have hn40 := ho.notes
  by_cases h : (0 ≤ a ∧ a ≤ 2) ∧ 0 ≤ b ∧ b ≤ 3
  · exact Stp.m hJ ⟨Int.le_refl _, cB_le q⟩ (Fs.m (setLimits_ok hI ha hb h)) (fun V k n R hV h => hp_setLimits_ok hV h) (fun τ l' f => by
      have h9 := setLimits_q ho (f 93 (by decide) (by decide)) ((congrFun (f 92 (by decide) (by decide)) 5).trans hn) h8 h
      rw [prf f] at h9
      exact h9)
  · exact Stp.t (Or.inl rfl) r00 hJ (hp_setLimits_t1 (setLimits_bad ha hb h)) (setLimits_r ho rfl ha hb h)
theorem st_setTolerance (hJ : Jv (cB q) σ l) {a : Int} (ha : R32 a) : Stp g zL_setTolerance zX6_setTolerance [.ref 0, iv a, .ref 108] [.ref 92, iv a] R32 q σ l := by
  have hJ2 := hJ
  obtain ⟨⟨n, hI, hn⟩, hr⟩ := hJ2
  have hK := hI.K
  have ho := hK.ok
  have hc := hK.st
  have h8 : n ≤ 8 := hI.2.2.2
  have hHI := ho.hI
  have hNI := ho.nI
  have hn40 := ho.notes
  by_cases h : 5 ≤ a ∧ a ≤ 49
  · exact Stp.m hJ ⟨Int.le_refl _, cB_le q⟩ (Fs.m (setTolerance_ok hI ha h)) (fun V k n R hV h => hp_setTolerance_ok hV h) (fun τ l' f => by
      have h9 := setTolerance_q ho (f 93 (by decide) (by decide)) ((congrFun (f 92 (by decide) (by decide)) 5).trans hn) h8 h
      rw [prf f] at h9
      exact h9)
  · exact Stp.t (Or.inl rfl) r00 hJ (hp_setTolerance_t1 (setTolerance_bad ha h)) (setTolerance_r ho rfl ha h)
theorem st_setCosts (hJ : Jv (cB q) σ l) {a b d : Int} (ha : R32 a) (hb : R32 b) (hd : R32 d) : Stp g zL_setCosts zX6_setCosts [.ref 0, iv a, iv b, iv d, .ref 108] [.ref 92, iv a, iv b, iv d] R32 q σ l := by
  have hJ2 := hJ
  obtain ⟨⟨n, hI, hn⟩, hr⟩ := hJ2
  have hK := hI.K
  have ho := hK.ok
  have hc := hK.st
  have h8 : n ≤ 8 := hI.2.2.2
  have hHI := ho.hI
  have hNI := ho.nI
  have hn40 := ho.notes
  by_cases h : (1 ≤ a ∧ a ≤ 9) ∧ (1 ≤ b ∧ b ≤ 9) ∧ 0 ≤ d ∧ d ≤ 9
  · exact Stp.m hJ ⟨Int.le_refl _, cB_le q⟩ (Fs.m (setCosts_ok hI ha hb hd h)) (fun V k n R hV h => hp_setCosts_ok hV h) (fun τ l' f => by
      have h9 := setCosts_q ho (f 93 (by decide) (by decide)) ((congrFun (f 92 (by decide) (by decide)) 5).trans hn) h8 h
      rw [prf f] at h9
      exact h9)
  · exact Stp.t (Or.inl rfl) r00 hJ (hp_setCosts_t1 (setCosts_bad ha hb hd h)) (setCosts_r ho rfl ha hb hd h)
theorem st_addNote (hJ : Jv (cB q) σ l) {a : Int} (ha : R32 a) : Stp g zL_addNote zX6_addNote [.ref 0, iv a, .ref 108] [.ref 92, iv a] R32 q σ l := by
  have hJ2 := hJ
  obtain ⟨⟨n, hI, hn⟩, hr⟩ := hJ2
  have hK := hI.K
  have ho := hK.ok
  have hc := hK.st
  have h8 : n ≤ 8 := hI.2.2.2
  have hHI := ho.hI
  have hNI := ho.nI
  have hn40 := ho.notes
  by_cases h : -1 ≤ a ∧ a ≤ 24
  · by_cases h9 : σ 93 9 < 40
    · exact Stp.m hJ ⟨Int.le_refl _, cB_le q⟩ (Fs.m (addNote_ok hI ha h h9)) (fun V k n R hV h => hp_addNote_ok hV h) (fun τ l' f => by
        have h10 := addNote_q ho (f 93 (by decide) (by decide)) ((congrFun (f 92 (by decide) (by decide)) 5).trans hn) h8 h h9
        rw [prf f] at h10
        exact h10)
    · have h40 : σ 93 9 = 40 := by omega
      exact Stp.q hJ (Fq.same hK (addNote_full ho hc ha h h40)) (fun V k n R hV h => hp_addNote_ok hV h) (fun τ l' f => addNote_f ho (f 93 (by decide) (by decide)) h h40)
  · exact Stp.t (Or.inl rfl) r00 hJ (hp_addNote_t1 (addNote_bad ha h)) (addNote_r ho rfl ha h)
theorem st_setNote (hJ : Jv (cB q) σ l) {a b : Int} (ha : R32 a) (hb : R32 b) : Stp g zL_setNote zX6_setNote [.ref 0, iv a, iv b, .ref 108] [.ref 92, iv a, iv b] R32 q σ l := by
  have hJ2 := hJ
  obtain ⟨⟨n, hI, hn⟩, hr⟩ := hJ2
  have hK := hI.K
  have ho := hK.ok
  have hc := hK.st
  have h8 : n ≤ 8 := hI.2.2.2
  have hHI := ho.hI
  have hNI := ho.nI
  have hn40 := ho.notes
  by_cases h : 0 ≤ a ∧ a < σ 93 9
  · by_cases h2 : -1 ≤ b ∧ b ≤ 24
    · obtain ⟨i, rfl⟩ : ∃ i : Nat, a = (i : Int) := ⟨a.toNat, by omega⟩
      have hi : i < wN (σ 93) := by omega
      exact Stp.m hJ ⟨Int.le_refl _, cB_le q⟩ (Fs.m (setNote_ok hI hi hb h2)) (fun V k n R hV h => hp_setNote_ok hV h) (fun τ l' f => by
        have h9 := setNote_q ho (f 93 (by decide) (by decide)) ((congrFun (f 92 (by decide) (by decide)) 5).trans hn) h8 hi h2
        rw [prf f] at h9
        exact h9)
    · exact Stp.t (Or.inr rfl) r00 hJ (hp_setNote_t2 (setNote_bad2 ho hc ha hb h h2)) (setNote_r2 ho rfl ha hb h h2)
  · exact Stp.t (Or.inl rfl) r00 hJ (hp_setNote_t1 (setNote_bad1 ho hc ha h)) (setNote_r1 ho rfl ha hb h)
theorem st_dropNote (hJ : Jv (cB q) σ l) {a : Int} (ha : R32 a) : Stp g zL_dropNote zX6_dropNote [.ref 0, iv a, .ref 108] [.ref 92, iv a] R32 q σ l := by
  have hJ2 := hJ
  obtain ⟨⟨n, hI, hn⟩, hr⟩ := hJ2
  have hK := hI.K
  have ho := hK.ok
  have hc := hK.st
  have h8 : n ≤ 8 := hI.2.2.2
  have hHI := ho.hI
  have hNI := ho.nI
  have hn40 := ho.notes
  by_cases h : 0 ≤ a ∧ a < σ 93 9
  · obtain ⟨i, rfl⟩ : ∃ i : Nat, a = (i : Int) := ⟨a.toNat, by omega⟩
    have hi : i < wN (σ 93) := by omega
    exact Stp.m hJ ⟨Int.le_refl _, cB_le q⟩ (Fs.m (dropNote_ok hI hi)) (fun V k n R hV h => hp_dropNote_ok hV h) (fun τ l' f => by
      have h9 := dropNote_q ho (f 93 (by decide) (by decide)) ((congrFun (f 92 (by decide) (by decide)) 5).trans hn) h8 hi
      rw [prf f] at h9
      exact h9)
  · exact Stp.t (Or.inl rfl) r00 hJ (hp_dropNote_t1 (dropNote_bad ho hc ha h)) (dropNote_r ho rfl ha h)
theorem st_repeat (hJ : Jv (cB q) σ l) {a b : Int} (ha : R32 a) (hb : R32 b) : Stp g zL_repeat zX6_repeat [.ref 0, iv a, iv b, .ref 108] [.ref 92, iv a, iv b] R32 q σ l := by
  have hJ2 := hJ
  obtain ⟨⟨n, hI, hn⟩, hr⟩ := hJ2
  have hK := hI.K
  have ho := hK.ok
  have hc := hK.st
  have h8 : n ≤ 8 := hI.2.2.2
  have hHI := ho.hI
  have hNI := ho.nI
  have hn40 := ho.notes
  by_cases h1 : 0 ≤ a ∧ a < σ 93 9
  · by_cases h2 : 0 ≤ b ∧ b < σ 93 9
    · by_cases h3 : a ≤ b
      · by_cases h4 : σ 93 9 + (b - a + 1) ≤ 40
        · exact Stp.m hJ ⟨Int.le_refl _, cB_le q⟩ (Fs.m (repeat_ok hI h1.1 h3 h2.2 h4)) (fun V k n R hV h => hp_repeat_ok hV h) (fun τ l' f => by
            have h9 := repeat_q ho (f 93 (by decide) (by decide)) ((congrFun (f 92 (by decide) (by decide)) 5).trans hn) h8 h1.1 h3 h2.2 h4
            rw [prf f] at h9
            exact h9)
        · exact Stp.q hJ (Fq.same hK (repeat_full ho hc h1.1 h3 h2.2 h4)) (fun V k n R hV h => hp_repeat_ok hV h) (fun τ l' f => repeat_f ho (f 93 (by decide) (by decide)) h1.1 h3 h2.2 h4)
      · exact Stp.t (Or.inr rfl) r00 hJ (hp_repeat_t2 (repeat_bad2 ho hc h1 h2 h3)) (repeat_r2 ho rfl h1 h2 h3)
    · exact Stp.t (Or.inl rfl) r00 hJ (hp_repeat_t1 (repeat_bad3 ho hc ha hb h1 h2)) (repeat_r1 ho rfl ha hb (fun z => h2 z.2))
  · exact Stp.t (Or.inl rfl) r00 hJ (hp_repeat_t1 (repeat_bad1 ho hc ha h1)) (repeat_r1 ho rfl ha hb (fun z => h1 z.1))
theorem st_higher (hJ : Jv (cB q) σ l) {a : Int} (ha : R32 a) : Stp g zL_higher zX6_higher [.ref 0, iv a, .ref 108] [.ref 92, iv a] R32 q σ l := by
  have hJ2 := hJ
  obtain ⟨⟨n, hI, hn⟩, hr⟩ := hJ2
  have hK := hI.K
  have ho := hK.ok
  have hc := hK.st
  have h8 : n ≤ 8 := hI.2.2.2
  have hHI := ho.hI
  have hNI := ho.nI
  have hn40 := ho.notes
  by_cases h : -12 ≤ a ∧ a ≤ 12
  · by_cases hg : hgB (σ 93) a (wN (σ 93)) = true
    · exact Stp.m hJ ⟨Int.le_refl _, cB_le q⟩ (Fs.m (higher_ok hI h hg)) (fun V k n R hV h => hp_higher_ok hV h) (fun τ l' f => by
        have h9 := higher_q ho (f 93 (by decide) (by decide)) ((congrFun (f 92 (by decide) (by decide)) 5).trans hn) h8 h hg
        rw [prf f] at h9
        exact h9)
    · exact Stp.q hJ (Fq.same hK (higher_no ho hc h hg)) (fun V k n R hV h => hp_higher_ok hV h) (fun τ l' f => higher_f ho (f 93 (by decide) (by decide)) h hg)
  · exact Stp.t (Or.inl rfl) r00 hJ (hp_higher_t1 (higher_bad ho hc ha h)) (higher_r ho rfl ha h)
theorem st_cover (hJ : Jv (cB q) σ l) {a b : Int} (ha : R32 a) (hb : R32 b) : Stp g zL_cover zX6_cover [.ref 0, iv a, iv b, .ref 108] [.ref 92, iv a, iv b] R32 q σ l := by
  have hJ2 := hJ
  obtain ⟨⟨n, hI, hn⟩, hr⟩ := hJ2
  have hK := hI.K
  have ho := hK.ok
  have hc := hK.st
  have h8 : n ≤ 8 := hI.2.2.2
  have hHI := ho.hI
  have hNI := ho.nI
  have hn40 := ho.notes
  by_cases h : 0 ≤ a ∧ a < σ 93 3
  · by_cases h2 : 0 ≤ b ∧ b ≤ 2
    · obtain ⟨i, rfl⟩ : ∃ i : Nat, a = (i : Int) := ⟨a.toNat, by omega⟩
      have hi : i < wH (σ 93) := by omega
      exact Stp.m hJ ⟨by omega, Int.le_of_eq (cB_s q)⟩ (cover_ok hI hi h2) (fun V k n R hV h => hp_cover_ok hV h) (fun τ l' f => by
        have h9 := cover_q ho (f 93 (by decide) (by decide)) ((congrFun (f 92 (by decide) (by decide)) 5).trans hn) h8 hi h2
        rw [prf f] at h9
        exact h9)
    · exact Stp.t (Or.inr rfl) r00 hJ (hp_cover_t2 (cover_bad2 ho hc ha hb h h2)) (cover_r2 ho rfl ha hb h h2)
  · exact Stp.t (Or.inl rfl) r00 hJ (hp_cover_t1 (cover_bad1 ho hc ha h)) (cover_r1 ho rfl ha hb h)
theorem st_rewind (hJ : Jv (cB q) σ l) {a : Int} (ha : R32 a) : Stp g zL_rewind zX6_rewind [.ref 0, iv a, .ref 108] [.ref 92, iv a] R32 q σ l := by
  have hJ2 := hJ
  obtain ⟨⟨n, hI, hn⟩, hr⟩ := hJ2
  have hK := hI.K
  have ho := hK.ok
  have hc := hK.st
  have h8 : n ≤ 8 := hI.2.2.2
  have hHI := ho.hI
  have hNI := ho.nI
  have hn40 := ho.notes
  by_cases h : a = 0 ∨ 0 ≤ a ∧ a < σ 93 9
  · exact Stp.m hJ ⟨Int.le_refl _, cB_le q⟩ (Fs.m (rewind_ok hI ha h)) (fun V k n R hV h => hp_rewind_ok hV h) (fun τ l' f => by
      have h9 := rewind_q ho (f 93 (by decide) (by decide)) ((congrFun (f 92 (by decide) (by decide)) 5).trans hn) h8 h
      rw [prf f] at h9
      exact h9)
  · exact Stp.t (Or.inl rfl) r00 hJ (hp_rewind_t1 (rewind_bad ho hc ha h)) (rewind_r ho rfl ha h)
theorem st_saveSnapshot (hJ : Jv (cB q) σ l) {a : Int} (ha : R32 a) : Stp g zL_saveSnapshot zX6_saveSnapshot [.ref 0, iv a, .ref 108] [.ref 92, iv a] R32 q σ l := by
  have hJ2 := hJ
  obtain ⟨⟨n, hI, hn⟩, hr⟩ := hJ2
  have hK := hI.K
  have ho := hK.ok
  have hc := hK.st
  have h8 : n ≤ 8 := hI.2.2.2
  have hHI := ho.hI
  have hNI := ho.nI
  have hn40 := ho.notes
  by_cases h : 0 ≤ a ∧ a ≤ 1
  · obtain ⟨i, rfl⟩ : ∃ i : Nat, a = (i : Int) := ⟨a.toNat, by omega⟩
    have hi : i < 2 := by omega
    have hcl := saveSnapshot_ok (g := g) hK hi
    rw [iv_nf] at hcl
    have hcl2 : Fn g zX5_saveSnapshot 0 0 [.ref 0, iv (i : Int)] σ l (fun o τ l' => o = .inl (some (iv (Int32.ofInt (σ 93 9)).toInt)) ∧ (τ = svS σ i ∧ l' = l)) := hcl
    refine ⟨0, _, l, _, 0, 0, Or.inl rfl, nf_R _, Gr.refl l, Nat.zero_le _, Nat.zero_le _, hp_saveSnapshot_ok (nf_R _) hcl2, ?_⟩
    rintro ω l' ⟨τ, ⟨rfl, rfl⟩, rfl⟩
    obtain ⟨ρ, hρ⟩ : ∃ ρ : sT, ρ = up (svS σ i) 108 0 (Int32.ofInt (σ 93 9)).toInt := ⟨_, rfl⟩
    rw [← hρ]
    have fr : ∀ a, a ≠ 8 → a < 84 ∨ 91 < a → a ≠ 108 → ρ a = σ a := fun a a0 a1 a2 => by
      rw [hρ, up_n a2]
      unfold svS
      rw [up_n a0, cpSt_n (by omega)]
    have f8 : ∀ j : Nat, j ≠ i → ρ 8 j = σ 8 j := fun j hj => by
      rw [hρ, up_n (by decide)]
      unfold svS
      rw [up_ne (fun z => hj (by omega)), cpSt_n (by omega)]
    have f8i : ρ 8 i = 1 := by
      rw [hρ, up_n (by decide)]
      unfold svS
      rw [up_eq]
    have f84 : ∀ a, 84 + 4 * i ≤ a → a ≤ 87 + 4 * i → ρ a = cpSt σ 1 (84 + 4 * i) a := fun a a0 a1 => by
      rw [hρ, up_n (by omega)]
      unfold svS
      rw [up_n (by omega)]
    have fo : ∀ a, 84 ≤ a → a ≤ 91 → a < 84 + 4 * i ∨ 87 + 4 * i < a → ρ a = σ a := fun a a0 a1 a2 => by
      rw [hρ, up_n (by omega)]
      unfold svS
      rw [up_n (by omega), cpSt_n (by omega)]
    have hm2 := saveSnapshot_q (g := g) (l := l') ho (fr 93 (by decide) (by decide) (by decide)) hi
    rw [iv_nf] at hm2
    refine ⟨LE2.refl _, Fn.mono hm2 (fun o υ l'' h => ⟨h.1, h.2.2, ?_, fun _ => ?_, ?_⟩)⟩
    · rw [h.2.1, up_n (by decide), cpM_n (by decide), up_eq]
    · rw [h.2.1, up_n (by decide), cpM_n (by decide), up_n (by decide), hρ, up_eq]
    · have e1 := h.2.1
      have u0 : ∀ a, a ≠ 92 → a ≠ 96 → a ≠ 97 → υ a = ρ a := fun a a0 a1 a2 => by rw [e1, up_n a2, cpM_n a1, up_n a0]
      have u92 : ∀ j, j ≠ 6 → υ 92 j = ρ 92 j := fun j hj => by rw [e1, up_n (by decide), cpM_n (by decide), up_ne (fun z => hj z.2)]
      have ep : pr υ = pr σ := by
        funext j k
        show υ 95 _ = σ 95 _
        rw [u0 95 (by decide) (by decide) (by decide), fr 95 (by decide) (by decide) (by decide)]
      have e93 : υ 93 = σ 93 := by rw [u0 93 (by decide) (by decide) (by decide), fr 93 (by decide) (by decide) (by decide)]
      have f92 : ρ 92 = σ 92 := fr 92 (by decide) (by decide) (by decide)
      refine Jv.more ⟨⟨n, ?_, ?_⟩, ?_⟩ (cB_le q)
      · rw [ep, e93]
        have h1 := hI.q (τ := ρ) ⟨fun a a0 a1 => by
          by_cases c8 : a = 8
          · sorry
          · sorry, fun j hj => by rw [fr 0 (by decide) (by decide) (by decide)]⟩ (hK.frame (fun a a0 a1 => by sorry) (by rw [fr 0 (by decide) (by decide) (by decide)]) (LE2.refl _))
        exact h1.cg (fun a ha => u0 a (by omega) (by omega) (by omega))
      · rw [u92 5 (by decide), f92]; exact hn
      · sorry
  · exact Stp.t (Or.inl rfl) r00 hJ (hp_saveSnapshot_t1 (saveSnapshot_bad ha h)) (saveSnapshot_r ho rfl ha h)
end C94
