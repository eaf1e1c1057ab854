theorem gAt_cong {cs : Nat → ClassId} {b : Nat} {f f2 : Int → Int} {H : Heap} (h : gAt cs b f H) (e : f = f2) : gAt cs b f2 H := by subst e; exact h
/-! what the class's Meter does with its record -/
def bgM (th n : Int) : Int → Int := fun i => if i = 0 then th else if i = 2 then 100 else if i = 6 then n else 0
def bgL (w n : Int) : Int → Int := fun i => if i = 0 then w else if i = 1 then n else 0
def stM (f : Int → Int) (co : Int) : Int → Int := up (up (up (up (up (up f 8 (f 8 + co)) 11 (f 3)) 12 (f 4)) 10 (f 10 + 1)) 2 100) 9 0
def mdM (f : Int → Int) (n : Int) : Int → Int := up (up f 7 0) 6 n
def msM (f : Int → Int) : Int := f 5 - 6000 * (f 3 + f 4) - f 1
/-- the way of a disc in n alike minutes -/
def wayS (f st : Int → Int) (n pw : Int) : Int :=
  if st 0 < pw then n * (if f 7 = 1 then pw * f 2 / 100 / 2 else pw * f 2 / 100)
  else if 0 < pw ∨ f 7 = 1 then 0
  else if st 2 = 0 then n * st 1
  else if f 1 = 0 then 0 else min (n * st 1) (6000 - f 1)
/-- what a Meter's methods need of its record, and of the settings -/
def rOK (f : Int → Int) : Prop := (0 ≤ f 1 ∧ f 1 < 6000) ∧ (100 ≤ f 2 ∧ f 2 ≤ 160) ∧ (0 ≤ f 9 ∧ f 9 ≤ 5000) ∧ (f 7 = 0 ∨ f 7 = 1)
def qOK (st : Int → Int) : Prop := (0 ≤ st 0 ∧ st 0 ≤ 99) ∧ (0 ≤ st 1 ∧ st 1 ≤ 9) ∧ (st 2 = 0 ∨ st 2 = 1) ∧ (100 ≤ st 3 ∧ st 3 ≤ 5000)
theorem wayS_rng {f st : Int → Int} {n pw : Int} (hf : rOK f) (hs : qOK st) (hn : 1 ≤ n ∧ n ≤ 5000) (hp : 0 ≤ pw ∧ pw ≤ 48000) : 0 ≤ wayS f st n pw ∧ wayS f st n pw ≤ 384000000 := by
  obtain ⟨⟨f1, f2⟩, ⟨f3, f4⟩, f5, f6⟩ := hf
  obtain ⟨s0, ⟨s1, s2⟩, s3, s4⟩ := hs
  have hm : 0 ≤ pw * f 2 ∧ pw * f 2 ≤ 48000 * 160 := ⟨Int.mul_nonneg hp.1 (by omega), Int.mul_le_mul hp.2 f4 (by omega) (by omega)⟩
  have hc : 0 ≤ n * st 1 ∧ n * st 1 ≤ 5000 * 9 := ⟨Int.mul_nonneg (by omega) s1, Int.mul_le_mul hn.2 s2 s1 (by omega)⟩
  unfold wayS
  split
  · have hw : 0 ≤ (if f 7 = 1 then pw * f 2 / 100 / 2 else pw * f 2 / 100) ∧ (if f 7 = 1 then pw * f 2 / 100 / 2 else pw * f 2 / 100) ≤ 76800 := by split <;> omega
    generalize (if f 7 = 1 then pw * f 2 / 100 / 2 else pw * f 2 / 100) = z at hw ⊢
    exact ⟨Int.mul_nonneg (by omega) hw.1, Int.mul_le_mul hn.2 hw.2 hw.1 (by omega)⟩
  · split
    · omega
    · split
      · omega
      · split <;> omega
def rn1 (f : Int → Int) (n pw : Int) : Int → Int := up f 5 (f 5 + pw * n)
def rn2 (f st : Int → Int) (n pw : Int) : Int → Int := up (rn1 f n pw) 1 (rn1 f n pw 1 + wayS (rn1 f n pw) st n pw)
def rnT (f st : Int → Int) (n pw : Int) : Int := rn2 f st n pw 1 / 6000
def rn3 (f st : Int → Int) (n pw : Int) : Int → Int := up (rn2 f st n pw) 1 (rn2 f st n pw 1 - rnT f st n pw * 6000)
def rn4 (f st : Int → Int) (n pw nt : Int) : Int → Int := if nt = 1 then up (rn3 f st n pw) 4 (rn3 f st n pw 4 + rnT f st n pw) else up (rn3 f st n pw) 3 (rn3 f st n pw 3 + rnT f st n pw)
def rn5 (f st : Int → Int) (n pw nt : Int) : Int → Int := up (rn4 f st n pw nt) 9 (rn4 f st n pw nt 9 + n)
def rn6 (f st : Int → Int) (n pw nt : Int) : Int → Int := up (rn5 f st n pw nt) 9 0
/-- run(): n alike minutes of a Meter -/
def rnM (f st : Int → Int) (n pw nt : Int) : Int → Int := if rn5 f st n pw nt 9 < st 3 then rn5 f st n pw nt else up (rn6 f st n pw nt) 2 (min 160 (rn6 f st n pw nt 2 + 1))
theorem rn4_9 {f st : Int → Int} {n pw nt : Int} : rn4 f st n pw nt 9 = f 9 := by
  have h : rn3 f st n pw 9 = f 9 := (up_n (by decide)).trans ((up_n (by decide)).trans (up_n (by decide)))
  unfold rn4
  split
  · exact (up_n (by decide)).trans h
  · exact (up_n (by decide)).trans h
theorem rn4_2 {f st : Int → Int} {n pw nt : Int} : rn4 f st n pw nt 2 = f 2 := by
  have h : rn3 f st n pw 2 = f 2 := (up_n (by decide)).trans ((up_n (by decide)).trans (up_n (by decide)))
  unfold rn4
  split
  · exact (up_n (by decide)).trans h
  · exact (up_n (by decide)).trans h
theorem rn5_9 {f st : Int → Int} {n pw nt : Int} : rn5 f st n pw nt 9 = f 9 + n := by unfold rn5; rw [up_s, rn4_9]
theorem rn6_2 {f st : Int → Int} {n pw nt : Int} : rn6 f st n pw nt 2 = f 2 := (up_n (by decide)).trans ((up_n (by decide)).trans rn4_2)
theorem rn1_rOK {f : Int → Int} {n pw : Int} (h : rOK f) : rOK (rn1 f n pw) := h
