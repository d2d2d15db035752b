/-! pairs of calls (written by wip/whole/gen9982.py) -/
section V4
variable {l : Launch} {d : Nat} {g : List (Option Nat)} {T : m_E} {J : z_J}
end V4
