section KXK
variable {E : kx_E} {Y : kx_Y} {z : kx_Z} {pc : Nat} {L : kx_L} {st : List Value} {w : va_W} {kc ks : Nat} {Q : kx_O → va_W → Prop}
theorem kx_stk {st1 : List Value} (h : st = st1) (kk : kx_R E Y z pc L st1 w kc ks Q) : kx_R E Y z pc L st w kc ks Q := h ▸ kk
end KXK
