/-! weeks with so much climbed in each -/
def hovN (p : pP) (H : pN) (c : Nat) (T : pN) : Nat → pN
  | 0 => T
  | n + 1 => weekN p H (up1 (hovN p H c T n) 24 c)
theorem rS_hov {p : pP} {H T : pN} {c : Nat} (hr : rH H) (h : rS 999 H T) : ∀ n, n ≤ 1000 → rS (999 + n) H (hovN p H c T n)
  | 0, _ => h
  | n + 1, hn => rS_week (B := 999 + n) hr (rS_up24 (rS_hov hr h n (by omega))) (by omega)
/-- how many would have a LACK, each owing d more -/
def lawB (H T : pN) (d : Int) (j : Nat) : Bool := decide ((T (8 + j) : Int) < max 0 ((H (32 + j) : Int) + d) + T (16 + j))
