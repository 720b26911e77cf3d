"""Runs of calls with the answers that model.py gives to them, one call a line, for RunsOfTheModel.java.

    python3 runs.py SORT FIRST COUNT [LIMIT] > FILE

SORT is mixed, limits, schemas or rooms; FIRST and COUNT are seeds; a run ends behind LIMIT calls (with it, rows are
looked at here and there, else byte by byte). From the project's root, with the classes compiled to OUT:

    java -cp OUT RunsOfTheModel FILE
"""
import random, re, struct, sys, inspect
from model import *

class Enough(Exception):
    pass
KINDW = ['bool', 'int', 'uint', 'zint', 'fix', 'long', 'ulong', 'zlong', 'fixlong', 'text', 'bytes']

class Run:
    """One house and calls to it, by chance but with sense, with the answers of the model."""

    def __init__(s, seed, limit=None):
        s.r = random.Random(seed)
        s.w = WH()
        s.lines = ['new']
        s.limit = limit

    def call(s, m, *a):
        if s.limit is not None and len(s.lines) > s.limit:
            raise Enough()
        v = getattr(s.w, m)(*a)
        s.lines.append('%s = %d' % (' '.join([m] + [str(x) for x in a]), v))
        return v

    def text(s, t):
        b = t if isinstance(t, bytes) else t.encode('latin1')
        if len(s.w.tape) + (len(b) + 19) // 20 * 20 > 4000:
            b = b[:max(0, (4000 - len(s.w.tape)) // 20 * 20)]
        n = len(b)
        p = b + b' ' * (-n % 20)
        for i in range(0, len(p), 20):
            v = struct.unpack('>5i', p[i:i + 20])
            s.call('feed', *v)
        if len(p) != n:
            s.call('cut', len(p) - n)

    def schema(s, size=None):
        r = s.r
        S = {'items': []}
        ne = r.randint(0, 3)
        nr = r.randint(1, 5)
        nv = r.randint(0, 2)
        en = ['E%d' % i for i in range(ne)]
        rn = ['R%d' % i for i in range(nr)]
        for e in en:
            k = r.randint(1, 5)
            nums = r.sample([-32768, 32767, 0, 1, 2, 3, 7, -1, -2, 100, -300], k)
            S['items'].append(['enum', e, [['C%d' % i, v] for i, v in enumerate(nums)]])
        for x in rn:
            nums = r.sample(list(range(1, 30)) + [2000, 1999, 100, 128, 16, 15], r.randint(0, 8))
            parts = []
            fi = 0

            def fld(inone):
                nonlocal fi
                f = {'n': 'f%d' % fi, 'mode': '', 'num': nums[fi], 'val': None}
                fi += 1
                t = r.random()
                if not inone:
                    m = r.random()
                    if m < 0.2:
                        f['mode'] = 'many'
                    elif m < 0.4:
                        f['mode'] = 'maybe'
                    elif m < 0.55:
                        f['mode'] = 'map'
                        f['key'] = r.choice(KINDW[1:10])
                q = r.random()
                if q < 0.25:
                    f['type'] = r.choice(rn)
                elif q < 0.4 and en:
                    f['type'] = r.choice(en)
                else:
                    f['type'] = r.choice(KINDW)
                if not inone and f['mode'] == '' and (f['type'] not in rn) and (r.random() < 0.4):
                    f['val'] = s.defval(f['type'], S)
                return f
            while fi < len(nums):
                if r.random() < 0.25:
                    k = min(len(nums) - fi, r.randint(1, 4))
                    parts.append(['one', 'o%d' % len(parts), [fld(True) for _ in range(k)]])
                elif r.random() < 0.05:
                    parts.append(['keep', r.sample(range(40, 90), r.randint(1, 2))] if not any((p[0] == 'keep' for p in parts)) else fld(False))
                else:
                    parts.append(fld(False))
                parts = [p if isinstance(p, list) else ['f', p] for p in parts]
            S['items'].append(['record', x, parts])
        for v in range(nv):
            cells = ['c%d' % i for i in range(r.randint(0, 3))]
            calls = []
            for j in range(r.randint(0, 4)):
                i = r.choice(rn)
                o = r.choice(rn)
                calls.append(['k%d' % j, i, o, j * r.choice([1, 7]) if r.random() < 0.9 else 1000 - j, s.steps(S, i, o, cells)])
            nums = set()
            for c in calls:
                while c[3] in nums:
                    c[3] += 1
                nums.add(c[3])
            S['items'].append(['service', 'V%d' % v, cells, calls])
        if r.random() < 0.3:
            r.shuffle(S['items'])
        return S

    def recfields(s, S, x):
        for it in S['items']:
            if it[1] == x:
                o = []
                for p in it[2]:
                    if p[0] == 'f':
                        o.append(p[1])
                    elif p[0] == 'one':
                        o += p[2]
                return o
        return []

    def exp(s, S, i, cells, d=0):
        r = s.r
        q = r.random()
        fs = s.recfields(S, i)
        if d > 3 or q < 0.35:
            z = r.random()
            if z < 0.3 or (not fs and (not cells)):
                return str(r.choice([0, 1, 2, 3, 7, 10, 255, 65536, 2147483647, 4294967296, 9223372036854775807]))
            if z < 0.5 and cells:
                return r.choice(cells)
            if fs:
                return 'in.' + r.choice(fs)['n']
            return r.choice(cells)
        if q < 0.45:
            return '(' + s.exp(S, i, cells, d + 1) + ')'
        if q < 0.5:
            return '-' + s.exp(S, i, cells, 4)
        if q < 0.55:
            return '!' + s.exp(S, i, cells, 4)
        if q < 0.65:
            return '(' + s.exp(S, i, cells, d + 1) + ' ' + r.choice(['==', '!=', '<', '<=', '>', '>=']) + ' ' + s.exp(S, i, cells, d + 1) + ')' if d else s.exp(S, i, cells, d + 1) + r.choice(['==', '!=', '<', '<=', '>', '>=']) + s.exp(S, i, cells, d + 1)
        return s.exp(S, i, cells, d + 1) + ' ' + r.choice('+-*/%+-*') + ' ' + s.exp(S, i, cells, d + 1)

    def steps(s, S, i, o, cells):
        r = s.r
        out = []
        en = [it[1] for it in S['items'] if it[0] == 'enum']
        of = [f for f in s.recfields(S, o) if f['mode'] in ('', 'maybe') and (f['type'] in KINDW[:9] or f['type'] in en)]
        for _ in range(r.randint(0, 5)):
            q = r.random()
            if q < 0.35 and cells:
                out.append(r.choice(cells) + ' = ' + s.exp(S, i, cells) + ';')
            elif q < 0.85 and of:
                out.append('out.' + r.choice(of)['n'] + ' = ' + s.exp(S, i, cells) + ';')
            elif q < 0.95:
                out.append('fail ' + s.exp(S, i, cells) + ';')
        return out

    def strlit(s, kind, short=False):
        r = s.r
        n = r.choice([0, 0, 1, 2, 3, 4, 5, 7, 8, 9, 12]) if not short else r.choice([0, 1, 2])
        o = ''
        i = 0
        while i < n:
            q = r.random()
            if q < 0.6:
                o += r.choice('abcxyz AZ09#{}')
            elif q < 0.7:
                o += r.choice(['\\"', '\\\\'])
            elif q < 0.85 and kind == 'text':
                o += r.choice(['\\xc3\\xa9', '\\xe2\\x82\\xac', '\\xf0\\x90\\x80\\x80', '\\x00', '\\x7f', '\\xed\\x9f\\xbf'])
            elif q < 0.87 and kind == 'text' and (r.random() < 0.1):
                o += r.choice(['\\xc0\\x80', '\\xff', '\\xed\\xa0\\x80', '\\xf4\\x90\\x80\\x80', '\\xe0\\x80\\x80', '\\xc3'])
            elif kind == 'bytes':
                o += '\\x%02x' % r.randint(0, 255)
            else:
                o += 'q'
            i += 1
        return '"' + o + '"'

    def intlit(s, kind):
        r = s.r
        lo, hi = RANGE[KINDW.index(kind)] if kind != 'enum' else (-32768, 32767)
        hi = min(hi, 2 ** 63 - 1)
        lo = max(lo, -(2 ** 63 - 1))
        q = r.random()
        if q < 0.5:
            v = r.randint(max(lo, -9), min(hi, 300))
        elif q < 0.7:
            v = r.choice([lo, hi])
        elif q < 0.98:
            v = r.randint(lo, hi) >> r.randint(0, 40)
        else:
            v = r.choice([lo - 1, hi + 1])
        return ('- ' if v < 0 and r.random() < 0.05 else '-' if v < 0 else '') + ('0' if r.random() < 0.03 else '') + str(abs(v))

    def defval(s, t, S):
        r = s.r
        if t == 'bool':
            return r.choice(['true', 'false'])
        if t in ('text', 'bytes'):
            return s.strlit(t)
        for it in S['items']:
            if it[1] == t and it[0] == 'enum':
                return r.choice(it[2])[0] if r.random() < 0.7 else s.intlit('enum')
        if t in KINDW:
            return s.intlit(t)
        return '1'

    def fieldtext(s, f):
        t = f['type']
        if f['mode'] == 'map':
            t = 'map<%s, %s>' % (f['key'], t)
        elif f['mode']:
            t = f['mode'] + ' ' + t
        return '%s %s @ %d%s;' % (t, f['n'], f['num'], ' = ' + f['val'] if f['val'] is not None else '')

    def stext(s, S):
        o = []
        for it in S['items']:
            if it[0] == 'enum':
                o.append('enum %s { %s }' % (it[1], ' '.join(('%s = %d;' % (c, v) for c, v in it[2]))))
            elif it[0] == 'record':
                ps = []
                for p in it[2]:
                    if p[0] == 'f':
                        ps.append(s.fieldtext(p[1]))
                    elif p[0] == 'one':
                        ps.append('one %s { %s }' % (p[1], ' '.join((s.fieldtext(f) for f in p[2]))))
                    else:
                        ps.append('keep ' + ', '.join(map(str, p[1])) + ';')
                o.append('record %s { %s }' % (it[1], ' '.join(ps)))
            else:
                o.append('service %s { %s %s }' % (it[1], ' '.join(('cell %s;' % c for c in it[2])), ' '.join(('call %s (%s) %s @ %d { %s }' % (c[0], c[1], c[2], c[3], ' '.join(c[4])) for c in it[3]))))
        return s.r.choice([' ', '\n', ' # remark\n']).join(o)

    def mutate_text(s, t, n=None):
        r = s.r
        for _ in range(n or r.choice([1, 1, 1, 2, 3])):
            toks = re.findall('"[^"]*"|\\w+|[^\\w\\s]|\\s+', t)
            if not toks:
                return t
            i = r.randrange(len(toks))
            q = r.random()
            if q < 0.2:
                del toks[i]
            elif q < 0.35:
                toks.insert(i, toks[r.randrange(len(toks))])
            elif q < 0.55:
                toks[i] = toks[r.randrange(len(toks))]
            elif q < 0.8:
                toks[i] = r.choice(['enum', 'record', 'many', 'maybe', 'map', 'one', 'keep', 'int', 'text', 'bool', 'bytes', 'in', 'out', 'fail', 'true', 'false', 'x', 'f0', 'f1', 'R0', 'R1', 'E0', 'C0', 'V0', 'c0', '0', '1', '2', '2000', '2001', '9223372036854775807', '9223372036854775808', '-', '{', '}', '<', '>', '[', ']', '(', ')', ';', ',', '.', '@', '=', '==', '!', '"a"', '"\\xff"', '"', '$', 'abcdefghijklmnopq', 'abcdefghijklmnop', '12345678901234567890', '#', '\x80', ':', '+', '*', '/', '%', '<=', '!='])
            elif q < 0.9:
                toks[i] = toks[i][:r.randrange(len(toks[i]) + 1)]
            else:
                toks = toks[:i]
            t = ''.join(toks)
        return t

    def mutate_ast(s, S):
        import copy
        r = s.r
        S = copy.deepcopy(S)
        recs = [it for it in S['items'] if it[0] == 'record']
        en = [it[1] for it in S['items'] if it[0] == 'enum']
        rn = [it[1] for it in recs]
        for _ in range(r.randint(1, 4)):
            q = r.random()
            it = r.choice(recs)
            fs = s.recfields(S, it[1])
            if q < 0.35 and fs:
                f = r.choice(fs)
                f['type'] = r.choice(KINDW + en + rn)
                if f['val'] is not None:
                    f['val'] = None
            elif q < 0.5 and fs:
                f = r.choice(fs)
                inone = any((p[0] == 'one' and f in p[2] for p in it[2]))
                if not inone:
                    f['mode'] = r.choice(['', 'many', 'maybe', 'map'])
                    f['key'] = r.choice(KINDW[1:10])
                    f['val'] = None
            elif q < 0.6 and fs:
                f = r.choice(fs)
                inone = any((p[0] == 'one' and f in p[2] for p in it[2]))
                if f['mode'] == '' and f['type'] not in rn and (not inone):
                    f['val'] = s.defval(f['type'], S) if r.random() < 0.8 else None
            elif q < 0.68 and fs:
                f = r.choice(fs)
                n = r.randint(1, 40)
                if all((g['num'] != n for g in fs)):
                    f['num'] = n
            elif q < 0.76 and it[2]:
                r.shuffle(it[2])
            elif q < 0.84 and it[2]:
                del it[2][r.randrange(len(it[2]))]
            elif q < 0.92:
                n = r.randint(1, 60)
                if all((g['num'] != n for g in fs)) and len(fs) < 20 and (not any((p[0] == 'keep' for p in it[2]))):
                    it[2].insert(r.randint(0, len(it[2])), ['f', {'n': 'g%d' % n, 'mode': r.choice(['', 'maybe', 'many']), 'num': n, 'val': None, 'type': r.choice(KINDW)}])
            else:
                e = [x for x in S['items'] if x[0] == 'enum']
                if e:
                    x = r.choice(e)
                    x[2].append(['D%d' % len(x[2]), r.randint(-9, 40)]) if r.random() < 0.5 else len(x[2]) > 1 and x[2].pop(r.randrange(len(x[2])))
                fl = [i for i, p in enumerate(it[2]) if p[0] == 'f' and p[1]['mode'] == '' and (p[1]['val'] is None)]
                if fl and r.random() < 0.7:
                    i = r.choice(fl)
                    p = it[2].pop(i)
                    ones = [p2 for p2 in it[2] if p2[0] == 'one']
                    if ones and r.random() < 0.5:
                        r.choice(ones)[2].append(p[1])
                    else:
                        it[2].insert(i, ['one', 'w%d' % r.randint(0, 99), [p[1]]])
        return S

    def vtext(s, S, kind, t, d):
        r = s.r
        if kind == 12:
            return s.rectext(S, t, d + 1)
        if kind == 0:
            return r.choice(['true', 'false'])
        if kind in (9, 10):
            return s.strlit(KINDW[kind])
        if kind == 11:
            return r.choice(S.types[t].consts)[0].v if r.random() < 0.7 else s.intlit('enum')
        return s.intlit(KINDW[kind])

    def ftext(s, S, F, d):
        r = s.r
        if F.mode in 'SM':
            return s.vtext(S, F.kind, F.t, d)
        n = r.choice([0, 1, 2, 3]) if d < 6 else r.choice([0, 1])
        if F.mode == 'N' and r.random() < 0.05:
            n = r.choice([20, 64, 65, 100]) if F.kind != 12 else 5
        if F.mode == 'N':
            return '[' + ', '.join((s.vtext(S, F.kind, F.t, d) for _ in range(n))) + ']'
        ks = {}
        for _ in range(n):
            k = s.vtext(S, F.keykind, None, d)
            ks[k] = 1
        return '<' + ', '.join((k + ': ' + s.vtext(S, F.kind, F.t, d) for k in ks)) + '>'

    def rectext(s, S, k, d):
        r = s.r
        T = S.types[k]
        o = []
        ones = set()
        js = list(range(len(T.fields)))
        r.shuffle(js)
        if d > 14:
            js = [j for j in js if T.fields[j].kind != 12]
        p = 0.7 if d < 3 else 0.4 if d < 7 else 0.2
        for j in js:
            F = T.fields[j]
            if F.one is not None:
                if F.one in ones:
                    continue
                ones.add(F.one)
            if r.random() < p:
                o.append(F.name.v + ': ' + s.ftext(S, F, d))
        return '{' + ', '.join(o) + '}'

    def recs(s, S):
        return [k for k, T in enumerate(S.types) if T.rec]

    def msgtext(s, S, k):
        return S.types[k].name.v + ' ' + s.rectext(S, k, 1)

    def pathtext(s, S, R):
        r = s.r
        k = R.k
        cur = R
        o = ''
        s.last = (None, 0)
        for _ in range(r.choice([1, 1, 1, 2, 2, 3, 4, 6, 13])):
            T = S.types[k]
            if not T.fields:
                return o or 'x'
            js = list(cur.f) if isinstance(cur, Rec) and cur.f and (r.random() < 0.75) else range(len(T.fields))
            js = list(js)
            j = r.choice(js)
            F = T.fields[j]
            o += ('.' if o else '') + F.name.v
            cur = cur.f.get(j) if isinstance(cur, Rec) else None
            part = 0
            if F.mode == 'N' and r.random() < 0.8:
                n = len(cur) if cur else 0
                i = r.choice([0, n - 1, n, n, n + 1, 1, -1])
                o += '[%d]' % i
                part = 1
                cur = cur[i] if cur and 0 <= i < n else None
            elif F.mode == 'P' and r.random() < 0.8:
                if cur and r.random() < 0.6:
                    kk = r.choice(list(cur))
                    o += '[' + pval(S, F.keykind, None, kk) + ']'
                    cur = cur[kk]
                else:
                    o += '[' + s.vtext(S, F.keykind, None, 1) + ']'
                    cur = None
                part = 1
            if F.kind == 12 and (part or F.mode in 'SM'):
                k = F.t
                s.last = (F, part)
                continue
            s.last = (F, part)
            break
        return o

    def probe_msg(s, m):
        for w in range(6):
            s.call('told', m, w)
        n = s.call('print', m, 7)
        if n > 0:
            for _ in range(3):
                s.call('octet', 7, s.r.randrange(n))
            s.rowsum(7)

    def rowsum(s, row):
        n = len(s.w.rows[row])
        at = range(n) if s.limit is None else sorted(s.r.sample(range(n), min(n, 6)))
        for i in at:
            s.call('octet', row, i)

    def play(s, steps):
        r = s.r
        asts = {}
        w = s.w
        for _ in range(steps):
            have = [i for i in range(4) if w.sc[i]]
            msgs = [m for m in range(12) if w.m[m]]
            q = r.random()
            if not have or q < 0.06:
                i = r.randrange(4)
                if asts and r.random() < 0.5:
                    A = s.mutate_ast(r.choice(list(asts.values())))
                else:
                    A = s.schema()
                t = s.stext(A)
                mut = r.random() < 0.4
                if mut:
                    t = s.mutate_text(t)
                s.text(t)
                v = s.call('schema', i)
                s.call('place')
                if v >= 0:
                    if not mut:
                        asts[i] = A
                    else:
                        asts.pop(i, None)
                    s.probe_schema(i)
                continue
            i = r.choice(have)
            S = w.sc[i]
            recs = s.recs(S)
            if q < 0.25 and recs:
                t = s.msgtext(S, r.choice(recs))
                if r.random() < 0.3:
                    t = s.mutate_text(t)
                s.text(t)
                m = r.randrange(12)
                v = s.call('read', i, m)
                s.call('place')
                if v >= 0:
                    s.probe_msg(m)
            elif q < 0.4 and msgs:
                m = r.choice(msgs)
                i, R = w.m[m]
                S = w.sc[i]
                f = r.randrange(3)
                row = r.randrange(6)
                n = s.call('encode', m, f, row)
                if n >= 0:
                    s.rowsum(row)
                    n2 = r.randrange(12)
                    s.call('decode', i, R.k, f, row, n2)
                    s.call('place')
                    s.call('same', m, n2)
                    for _ in range(r.choice([3, 10, 20])):
                        n = len(w.rows[row])
                        if n == 0:
                            break
                        at = r.randrange(n)
                        mk = r.choice([1, 2, 4, 8, 16, 32, 64, 128, 255, r.randrange(256)])
                        s.call('alter', row, at, mk)
                        v = s.call('decode', i, R.k, f, row, 11)
                        s.call('place')
                        if v >= 0 and r.random() < 0.3:
                            s.probe_msg(11)
                        if r.random() < 0.6:
                            s.call('alter', row, at, mk)
                    if r.random() < 0.3:
                        w0 = w.rows[row]
                        if s.w.tape:
                            s.call('cut', len(s.w.tape))
                        s.call('unload', row)
                        s.call('cut', r.randint(0, min(len(w0), 20)))
                        s.call('load', row)
                        s.call('decode', i, R.k, f, row, 11)
                        s.call('place')
                    if r.random() < 0.3:
                        i2 = r.choice(have)
                        k2 = r.choice(s.recs(w.sc[i2]) or [0])
                        v = s.call('decode', i2, k2, f, row, 10)
                        s.call('place')
                        if v >= 0:
                            s.probe_msg(10)
            elif q < 0.6 and msgs:
                m = r.choice(msgs)
                i, R = w.m[m]
                S = w.sc[i]
                p = s.pathtext(S, R)
                if r.random() < 0.15:
                    p = s.mutate_text(p)
                z = r.random()
                if z < 0.35:
                    s.text(p)
                    s.call('ask', m, 6)
                    s.call('number')
                    s.call('place')
                    s.rowsum(6)
                elif z < 0.85:
                    F, part = s.last
                    v = (s.vtext(S, F.kind, F.t, 6) if part else s.ftext(S, F, 6)) if F else '1'
                    t = p + ' = ' + v
                    if r.random() < 0.15:
                        t = s.mutate_text(t)
                    s.text(t)
                    s.call('put', m)
                    s.call('place')
                    s.probe_msg(m)
                else:
                    s.text(p)
                    s.call('remove', m)
                    s.call('place')
                    s.probe_msg(m)
            elif q < 0.7 and msgs:
                m = r.choice(msgs)
                same = [n for n in msgs if w.pairok(m, n)]
                n = r.choice(same) if r.random() < 0.9 else r.randrange(12)
                z = r.random()
                if z < 0.4:
                    s.call('merge', m, n)
                    s.probe_msg(m)
                elif z < 0.8:
                    d = s.call('differ', m, n)
                    for k in range(min(6, max(0, d))):
                        s.call('path', k, 6)
                        s.rowsum(6)
                    s.call('path', d, 6)
                elif z < 0.9:
                    s.call('copy', m, r.randrange(12))
                else:
                    s.call('same', m, n)
            elif q < 0.8:
                i2 = r.choice(have)
                for _ in range(8):
                    a = r.choice(recs or [0])
                    b = r.choice(s.recs(w.sc[i2]) or [0])
                    if r.random() < 0.5:
                        b = a
                    s.call('judge', i, a, i2, b, r.randrange(3))
                    s.call('where')
            else:
                s.playnet()
            if r.random() < 0.02:
                s.noise()

    def probe_schema(s, i):
        S = s.w.sc[i]
        s.call('types', i, 0)
        s.call('types', i, 1)
        for k in range(len(S.types) + 1):
            for w in range(5):
                s.call('type', i, k, w)
            s.call('mark', i, 0, k)
            n = len(S.types[k].fields) + 1 if k < len(S.types) and S.types[k].rec else 2
            for j in range(n):
                for w in range(9):
                    s.call('field', i, k, j, w)
        for v in range(len(S.services) + 1):
            s.call('mark', i, 1, v)
            for w in range(7):
                s.call('service', i, v, s.r.randrange(3), w)
        for _ in range(10):
            s.call('name', i, s.r.randrange(6), s.r.randrange(4), s.r.randrange(4), s.r.randrange(3))
        s.call('describe', i, 5)
        s.rowsum(5)

    def playnet(s):
        r = s.r
        w = s.w
        have = [i for i in range(4) if w.sc[i]]
        hv = [i for i in have if w.sc[i].services]
        if (not w.srv or r.random() < 0.05) and hv:
            i = r.choice(hv)
            s.call('server', i, r.randrange(len(w.sc[i].services)), r.randrange(3))
            for c in range(3):
                j = i if r.random() < 0.8 else r.choice(hv)
                s.call('client', c, j, r.randrange(len(w.sc[j].services)) if r.random() < 0.3 else w.sc[i].services.index(w.srv.V) if j == i else 0)
        if not w.srv:
            return
        for _ in range(r.choice([10, 30])):
            z = r.random()
            if z < 0.3:
                c = r.randrange(3)
                if w.cl[c] and w.cl[c].V.calls:
                    j = r.randrange(len(w.cl[c].V.calls))
                    K = w.cl[c].V.calls[j]
                    ms = [m for m in range(12) if w.m[m] and w.m[m][0] == w.cl[c].s and (w.m[m][1].k == K.ik)]
                    if not ms or r.random() < 0.3:
                        S = w.sc[w.cl[c].s]
                        s.text(s.msgtext(S, K.ik))
                        m = r.randrange(12)
                        s.call('read', w.cl[c].s, m)
                        ms = [m]
                    s.call('invoke', c, j, r.choice(ms))
            elif z < 0.8:
                n = len(w.letters)
                if n:
                    i = r.randrange(n) if r.random() < 0.5 else 0
                    for x in range(6):
                        s.call('letter', i, x)
                    for x in range(48):
                        s.call('letter', i, 6 + x)
                    y = r.random()
                    if y < 0.8:
                        s.call('deliver', i)
                    elif y < 0.9:
                        s.call('lose', i)
                    else:
                        s.call('twice', i)
            elif z < 0.9:
                s.call('tick', r.choice([1, 2, 7, 8, 9, 30]))
            else:
                c = r.randrange(3)
                x = r.randrange(max(1, w.xid[c]))
                for q in range(4):
                    s.call('outcome', c, x, q)
                if s.call('take', c, x, 9) >= 0:
                    s.probe_msg(9)
            if r.random() < 0.02:
                s.call('crash')
            if r.random() < 0.3:
                for k in range(6):
                    s.call('net', k)
                for k in range(4):
                    s.call('cell', k)
                    s.call('ran', k)

    def noise(s):
        r = s.r
        for _ in range(30):
            m = r.choice(['feed', 'cut', 'load', 'unload', 'size', 'octet', 'alter', 'equal', 'place', 'types', 'type', 'field', 'name', 'service', 'describe', 'mark', 'read', 'print', 'told', 'copy', 'drop', 'same', 'encode', 'decode', 'ask', 'number', 'put', 'remove', 'merge', 'differ', 'path', 'judge', 'where', 'server', 'client', 'invoke', 'letter', 'deliver', 'lose', 'twice', 'tick', 'outcome', 'take', 'cell', 'ran', 'crash', 'net'])
            n = len(inspect.signature(getattr(WH, m)).parameters) - 1 if m != 'feed' else 5
            a = [r.choice([-1, 0, 0, 1, 1, 2, 3, 4, 5, 7, 8, 11, 12, 100, -2147483648, 2147483647]) for _ in range(n)]
            s.call(m, *a)
DEEP = 'enum E { A = 0; B = 1; C = -5; }\nrecord R { R a @ 1; many R b @ 2; map<int, R> c @ 3; one o { R d @ 4; text t @ 5; long l @ 20; } maybe R e @ 6; map<text, R> g @ 7;\n many bool z @ 8; many text y @ 9; many long x @ 10; text s @ 11 = "hi"; int n @ 12; E q @ 13; many E w @ 14; map<ulong, text> u @ 15; bytes v @ 16; many bytes r @ 17; map<zint, bool> h @ 18; maybe text mt @ 19; }\nrecord N { }\nrecord B { bool b0 @ 1; bool b1 @ 2; bool b2 @ 3; bool b3 @ 4; bool b4 @ 5; bool b5 @ 6; bool b6 @ 7; bool b7 @ 8; bool b8 @ 9; bool b9 @ 10; bool c0 @ 11 = true; bool c1 @ 12; bool c2 @ 13; bool c3 @ 14; bool c4 @ 15; B p @ 16; B p2 @ 17; B p3 @ 18; many N ns @ 19; many B bs @ 20; map<text, B> mb @ 21; map<int, N> mn @ 22; one o { N n @ 23; B bb @ 24; } }\nservice S { cell a; cell b; call f (R) N @ 1 { a = a + in.n; b = in.b; fail in.q; } call g (N) R @ 2 { out.n = a; out.l = b; out.q = 5; } call h (B) B @ 3 { out.b3 = in.bs; out.c0 = 0; a = 1; b = b / in.ns; } }\n'

class Limits(Run):
    """What is deep, large, walked, of many letters."""

    def nest(s, depth, leaf):
        r = s.r
        t = leaf
        for _ in range(depth):
            f = r.choice('abcdeg')
            t = {'a': '{a:%s}', 'b': '{b:[%s]}', 'c': '{c:<5:%s>}', 'd': '{d:%s}', 'e': '{e:%s}', 'g': '{g:<"k":%s>}'}[f] % t
            if r.random() < 0.2:
                t = t[:-1] + ',n:1}'
        return t

    def start(s, extra=''):
        s.text(DEEP + extra)
        assert s.call('schema', 0) >= 0, (s.w.pl, DEEP[s.w.pl:][:30])

    def rawload(s, b, row):
        if s.w.tape:
            s.call('cut', len(s.w.tape))
        s.text(b)
        s.call('load', row)

    def play(s, steps):
        r = s.r
        w = s.w
        s.start()
        S = w.sc[0]
        for _ in range(steps):
            q = r.random()
            if q < 0.15:
                d = r.randint(8, 13)
                s.text('R ' + s.nest(d, r.choice(['{}', '{n:1}', '{t:""}', '{b:[]}', '{b:[{},{}]}', '{c:<1:{},2:{}>}'])))
                m = r.randrange(4)
                v = s.call('read', 0, m)
                s.call('place')
                if v >= 0:
                    s.probe_msg(m)
                    for f in range(3):
                        s.call('encode', m, f, f)
                        s.rowsum(f)
                        s.call('decode', 0, 1, f, f, 5)
                        s.call('same', m, 5)
                        for _ in range(15):
                            n = len(w.rows[f])
                            at = r.randrange(n)
                            mk = r.choice([1, 2, 3, 4, 8, 12, 16, 32, 64, 128, 255])
                            s.call('alter', f, at, mk)
                            s.call('decode', 0, 1, f, f, 6)
                            s.call('place')
                            s.call('alter', f, at, mk)
            elif q < 0.25:
                d = r.randint(9, 13)
                b = r.choice([b'', b'`\x01', b'\x1a\x00', b'\x12\x00', b'\n\x00'])
                for _ in range(d):
                    f = r.choice([1, 2, 3, 4, 6, 7])
                    if f in (3, 7):
                        kk = b'\x08\x01' if f == 3 else b'\n\x01x'
                        if r.random() < 0.3:
                            kk = b''
                        b = kk + b'\x12' + varint(len(b)) + b if r.random() < 0.9 else kk
                    b = varint(f * 8 + 2) + varint(len(b)) + b
                    if r.random() < 0.2:
                        b += varint(12 * 8) + b'\x05'
                s.rawload(b, 0)
                v = s.call('decode', 0, 1, 0, 0, 6)
                s.call('place')
                if v >= 0:
                    s.probe_msg(6)
            elif q < 0.4:
                m = r.randrange(4)
                if not w.m[m]:
                    s.text('R {}')
                    s.call('read', 0, m)
                n = r.randint(8, 14)
                p = ''
                for i in range(n):
                    f = r.choice(['a', 'b[0]', 'c[5]', 'd', 'e', 'g["k"]', 'b[1]'])
                    p += f + '.'
                p += r.choice(['n', 't', 'a', 'b', 's', 'b[0]', 'b[2]', 'c', 'd.q', 'zz', 'x[0]'])
                z = r.random()
                if z < 0.2:
                    s.text(p)
                    s.call('ask', m, 6)
                    s.call('place')
                    s.call('number')
                elif z < 0.3:
                    s.text(p)
                    s.call('remove', m)
                    s.call('place')
                else:
                    s.text(p + '=' + r.choice(['1', '""', '{}', '[]', '[{}]', '{a:{}}', '<>', '<7:{}>', '[{a:{}}]']))
                    s.call('put', m)
                    s.call('place')
                    s.probe_msg(m)
            elif q < 0.55:
                m = r.randrange(4)
                k = r.choice(['x', 'z', 'w'])
                n = r.choice([396, 397, 398, 399, 400, 401])
                t = 'R {%s:[%s]%s}' % (k, ','.join(['1' if k != 'z' else 'true'] * (n - r.choice([0, 1, 2]))), r.choice(['', ',n:1', ',a:{}']))
                s.text(t)
                v = s.call('read', 0, m)
                s.call('place')
                if v >= 0:
                    for x in range(6):
                        s.call('told', m, x)
                    for f in range(3):
                        v = s.call('encode', m, f, f)
                        if v >= 0:
                            s.call('decode', 0, 1, f, f, 5)
                            s.call('place')
                            s.call('same', m, 5)
                    s.text(r.choice(['n=1', 'a.n=1', 'a.a.b[3]=1', 'a.a.b[3]={}', 'a.b[1].a={}', 'x[%d]=1' % (n - 2), 'x[%d]=1' % (n + 5), 'c[1].b[4]={}', 'c[1]={}', 'a.c[1].a.x[7]=1', 'z=[]', 'e.e.e.x[3]=2']))
                    s.call('put', m)
                    s.call('place')
                    s.call('told', m, 2)
                    s.call('merge', m, r.randrange(6))
                    s.call('told', m, 2)
            elif q < 0.62:
                m = r.randrange(4)
                n = r.choice([30, 32, 33, 34, 35])
                l = r.choice([57, 58, 59, 60])
                s.text('R {r:[%s]}' % ','.join(['"%s"' % ('p' * l)] * n))
                v = s.call('read', 0, m)
                s.call('place')
                if v >= 0:
                    for x in range(6):
                        s.call('told', m, x)
                    for f in range(3):
                        v = s.call('encode', m, f, f)
                        if v >= 0:
                            s.call('decode', 0, 1, f, f, 5)
                            s.call('same', m, 5)
                    s.text(r.choice(['s="%s"' % ('q' * r.randint(0, 60)), 'a.v="%s"' % ('q' * r.randint(0, 60)), 'u[%d]="%s"' % (r.randint(0, 3), 'q' * r.randint(0, 60)), 'g["%s"]={}' % ('k' * r.randint(0, 60))]))
                    s.call('put', m)
                    s.call('place')
                    s.call('told', m, 3)
                    s.call('merge', m, r.randrange(6))
                    s.call('told', m, 3)
            elif q < 0.85:
                nw = r.choice([1, 2, 3, 5, 8, 20, 60])
                words = []
                for i in range(nw):
                    z = r.random()
                    off = r.choice([-1, 0, 0, 0, 1, 1, 2, 3, 5, -2, -3, nw - i - 1, nw - i - 2, nw - i, -i - 1, -i - 2, r.randint(-nw, nw)]) & 1073741823
                    if z < 0.3:
                        ww = 0
                    elif z < 0.65:
                        D = r.choice([0, 0, 1, 1, 2, 3, 4])
                        P = r.choice([0, 0, 1, 2, 4, 8, 16, 20, r.randint(0, 24)])
                        ww = off << 2 | D << 32 | P << 48
                    elif z < 0.9:
                        so = r.choice([0, 1, 2, 2, 3, 4, 5, 6, 6, 7, 7, 7])
                        c = r.choice([0, 0, 1, 2, 3, 4, 8, 20, r.randint(0, 500)])
                        ww = 1 | off << 2 | so << 32 | c << 35
                    elif z < 0.95:
                        ww = r.choice([1, 2, 3, 5, 10, 400, 401]) << 2 | r.choice([0, 1, 2]) << 32 | r.choice([0, 1, 2]) << 48
                    else:
                        ww = r.getrandbits(64)
                    words.append(ww)
                b = b''.join((struct.pack('<Q', x) for x in words))
                if r.random() < 0.05:
                    b = b[:-r.randint(1, 7)]
                k = r.choice([1, 1, 1, 3, 3, 2])
                s.rawload(b, 0)
                v = s.call('decode', 0, k, 2, 0, 6)
                s.call('place')
                if v >= 0:
                    s.probe_msg(6)
                if r.random() < 0.7:
                    k = 3
                    T = S.types[k]
                    D, P = (T.D, T.P)
                    ws = [0 | 0 << 2 | D << 32 | P << 48] + [r.getrandbits(20) & ~0 for _ in range(D)]
                    base = 1
                    n = 1 + D + P
                    levels = r.randint(1, 12)
                    out = list(ws)
                    total = 1 + (D + P) * levels

                    def pt(p, t, Dx, Px):
                        return (t - p - 1 & 1073741823) << 2 | Dx << 32 | Px << 48
                    recs = [[0] * (D + P) for _ in range(levels)]
                    for L_ in range(levels):
                        bb = 1 + L_ * (D + P)
                        for dd in range(D):
                            recs[L_][dd] = r.getrandbits(15) if dd == 0 else 0
                        F = [f for f in T.fields]
                        for f in F:
                            if f.kind == 12 and f.mode == 'S' and (f.one is None):
                                if L_ + 1 < levels and r.random() < 0.9:
                                    p = bb + D + f.ptr
                                    recs[L_][D + f.ptr] = pt(p, bb + D + P, r.choice([D, D, D, 1, 0]), r.choice([P, P, P, 3, 0]))
                            if f.name.v == 'ns' and r.random() < 0.4:
                                p = bb + D + f.ptr
                                c = r.choice([0, 5, 50, 100])
                                recs[L_][D + f.ptr] = 1 | (total - p - 1 & 1073741823) << 2 | 7 << 32 | 0 << 35
                    tagw = r.choice([0, 5, 50, 100, 200, 390]) << 2
                    words = [pt(0, 1, D, P)] + [x for rr in recs for x in rr] + [tagw]
                    if len(words) <= 500:
                        b = b''.join((struct.pack('<Q', x) for x in words))
                        s.rawload(b, 0)
                        v = s.call('decode', 0, 3, 2, 0, 6)
                        s.call('place')
                        if v >= 0:
                            s.probe_msg(6)
            else:
                nw = r.choice([20, 40, 80, 200])
                vs = [r.choice([0, 0, 0, 0, 0, 1, 1, 1, 2, 4, 5, 20, 3, 4294967291, 4294967295, 400, 1627389952, 1751711744, r.getrandbits(32)]) for _ in range(nw)]
                b = b''.join((struct.pack('>I', x) for x in vs))
                if r.random() < 0.2:
                    b = b[:-r.randint(1, 3)]
                s.rawload(b, 0)
                s.call('decode', 0, r.choice([1, 3]), 1, 0, 6)
                s.call('place')
                b = bytearray(200)
                for _ in range(r.randint(0, 4)):
                    b[r.randrange(50) * 4 + 3] = r.choice([1, 1, 1, 2, 5, 4])
                s.rawload(bytes(b[:r.choice([60, 64, 68, 72, 76, 80, 84, 88, 92, 100, 104, 108])]), 0)
                v = s.call('decode', 0, r.choice([1, 1, 3]), 1, 0, 6)
                s.call('place')
                if v >= 0:
                    s.probe_msg(6)
            if r.random() < 0.15:
                s.bignet()

    def bignet(s):
        r = s.r
        w = s.w
        if not w.srv or r.random() < 0.2:
            s.call('server', 0, 0, r.randrange(3))
            for c in range(3):
                s.call('client', c, 0, 0)
        for _ in range(r.choice([5, 45])):
            ms = [m for m in range(12) if w.m[m]]
            if not ms:
                return
            m = r.choice(ms)
            k = w.m[m][1].k
            s.call('invoke', r.randrange(3) if r.random() < 0.5 else 0, {1: 0, 2: 1, 3: 2}[k], m)
            for _ in range(r.choice([0, 1, 10])):
                n = len(w.letters)
                if not n:
                    break
                i = r.randrange(n) if r.random() < 0.3 else 0
                y = r.random()
                if y < 0.85:
                    s.call('deliver', i)
                elif y < 0.9:
                    s.call('lose', i)
                else:
                    s.call('twice', i)
            if r.random() < 0.1:
                s.call('tick', r.choice([1, 8, 9]))
            for k in range(6):
                s.call('net', k)
            if r.random() < 0.1:
                s.text('N {}')
                s.call('read', 0, 7)
        for c in range(3):
            for x in range(w.xid[c]):
                for q in range(4):
                    s.call('outcome', c, x, q)
                if r.random() < 0.2 and s.call('take', c, x, 8) >= 0:
                    s.probe_msg(8)
        for k in range(3):
            s.call('cell', k)
            s.call('ran', k)

class Schemas(Run):
    """Schemas at their limits."""

    def exp_big(s, n):
        r = s.r
        o = r.choice(['1', 'c', 'in.x'])
        k = 1
        while k < n:
            z = r.random()
            if z < 0.7 or (k + 1 >= n and False):
                o += r.choice('+-*/%') + r.choice(['1', 'c', 'in.x'])
                k += 2
            else:
                o += '+' + r.choice(['-', '!']) + r.choice(['1', 'c', 'in . x'])
                k += 3
        return o

    def nestexp(s, d):
        r = s.r
        o = r.choice(['1', 'c', 'in.x'])
        for _ in range(d):
            o = r.choice(['(%s)', '-%s', '!%s', '(%s)', '( %s )']) % o
        return o

    def play(s, steps):
        r = s.r
        for _ in range(steps):
            z = r.randrange(9)
            if z == 0:
                t = ' '.join((r.choice(['record T%d { }', 'enum T%d { A = 1; }']) % i for i in range(r.choice([29, 30, 31, 32]))))
            elif z == 1:
                t = 'enum E { ' + ' '.join(('C%d = %d;' % (i, i - 3) for i in range(r.choice([15, 16, 17])))) + ' }'
            elif z == 2:
                n = r.choice([23, 24, 25])
                o = []
                i = 0
                on = 0
                while i < n:
                    if r.random() < 0.3:
                        k = min(n - i, r.randint(1, 3))
                        o.append('one o%d { %s }' % (on, ' '.join(('int f%d @ %d;' % (j, j + 1) for j in range(i, i + k)))))
                        i += k
                        on += 1
                    else:
                        o.append('%s f%d @ %d;' % (r.choice(['int', 'many long', 'maybe bool', 'bool', 'text', 'E', 'maybe ulong', 'map<int, text>', 'maybe E']), i, i + 1))
                        i += 1
                r.shuffle(o)
                t = 'enum E { A = 3; } record R { ' + ' '.join(o) + ' }'
            elif z == 3:
                t = 'record R { ' + ' '.join(('one o%d { %s a%d @ %d; bool b%d @ %d; }' % (i, r.choice(['int', 'text']), i, i * 2 + 1, i, i * 2 + 2) for i in range(r.choice([7, 8, 9])))) + ' }'
            elif z == 4:
                t = 'record R { int x @ 1; } ' + ' '.join(('service V%d { }' % i for i in range(r.choice([3, 4, 5]))))
            elif z == 5:
                t = 'record R { int x @ 1; } service V { %s %s }' % (' '.join(('cell c%d;' % i for i in range(r.choice([7, 8, 9])))), ' '.join(('call k%d (R) R @ %d { }' % (i, i) for i in range(r.choice([9, 10, 11])))))
            elif z == 6:
                t = 'record R { int x @ 1; } service V { cell c; call k (R) R @ 1 { c = %s; fail %s; out.x = 1; } }' % (s.exp_big(r.randint(40, 60)), s.exp_big(r.randint(30, 60)))
            elif z == 7:
                t = 'record R { int x @ 1; } service V { cell c; call k (R) R @ 1 { c = %s + %s; } }' % (s.nestexp(r.randint(8, 12)), s.nestexp(r.randint(8, 12)))
            else:
                t = 'record R { %s }' % ' '.join(('keep %s;' % ', '.join((str(r.choice([1, 2, 3, 2000, 2001, 0, i])) for i in range(1, r.randint(2, 8)))) for _ in range(r.randint(1, 2))))
            if r.random() < 0.4:
                t = s.mutate_text(t)
            if len(t) > 4000:
                continue
            s.text(t)
            v = s.call('schema', 0)
            s.call('place')
            if v >= 0:
                s.probe_schema(0)
class Rooms(Limits):
    """Rows that cost a reader much room, though what they tell is neither LARGE nor DEEP."""

    def wide(s):
        """A schema of records with many fields, of which rows tell few."""
        r = s.r

        def number(name, num, inone=False):
            t = r.choice(KINDW[:9] + ['E'])
            if inone:
                return '%s %s @ %d;' % (t, name, num)
            m = r.random()
            if m < 0.15:
                return 'maybe %s %s @ %d;' % (t, name, num)
            v = ''
            if m < 0.5:
                v = ' = ' + {'bool': 'true', 'E': 'B'}.get(t, str(r.choice([1, 7, 100])))
            return '%s %s @ %d%s;' % (t, name, num, v)

        def string(name, num):
            return r.choice(['text %s @ %d = "abc";', 'text %s @ %d;', 'bytes %s @ %d = "xy";', 'maybe text %s @ %d;', 'many text %s @ %d;', 'many bool %s @ %d;', 'many long %s @ %d;', 'map<int, bool> %s @ %d;', 'map<text, E> %s @ %d;', 'maybe bytes %s @ %d;']) % (name, num)

        def record(name, share, many):
            nums = r.sample(range(1, 41), 24)
            parts = []
            i = 0
            while i < many:
                if r.random() < 0.1 and i + 2 <= many:
                    parts.append('one o%d { %s %s }' % (i, number('f%d' % i, nums[i], True), r.choice(['text f%d @ %d;', 'W f%d @ %d;', 'V f%d @ %d;']) % (i + 1, nums[i + 1])))
                    i += 2
                elif r.random() < share:
                    parts.append(number('f%d' % i, nums[i]))
                    i += 1
                elif r.random() < 0.5:
                    parts.append(string('f%d' % i, nums[i]))
                    i += 1
                else:
                    parts.append(r.choice(['many W f%d @ %d;', 'many V f%d @ %d;', 'map<int, W> f%d @ %d;', 'map<text, V> f%d @ %d;', 'V f%d @ %d;', 'W f%d @ %d;', 'many N f%d @ %d;', 'map<long, N> f%d @ %d;']) % (i, nums[i]))
                    i += 1
            return 'record %s { %s }' % (name, ' '.join(parts))
        t = 'enum E { A = 3; B = -4; } record N { } '
        if r.random() < 0.3:
            nums = r.sample(range(1, 18), 15)
            maps = ' '.join('map<%s, %s> m%d @ %d;' % (r.choice(KINDW[1:10]), r.choice(['bool', 'text', 'N', 'E', 'int']), n, n) for n in nums[:r.choice([5, 10, 13])])
            t += 'record W { %s } record V { one o { W a @ 1; W b @ 2; %s } %s } record Q { one o { W a @ 1; V b @ 2; W c @ 3; } map<int, W> d @ 4; maybe bool e @ 5; }' % (maps, number('c', 3, True), r.choice(['', 'many bool g @ 9;']))
            t += ' service S { cell a; ' + ' '.join('call c%d (%s) N @ %d { a = a + 1; }' % (i, x, i) for i, x in enumerate('WVQ')) + ' }'
            return t
        t += record('W', 1.0, 24) + ' ' + record('V', 0.6, r.randint(10, 24)) + ' ' + record('Q', 0.2, r.randint(5, 24))
        t += ' service S { cell a; ' + ' '.join('call c%d (%s) N @ %d { a = a + 1; }' % (i, x, i) for i, x in enumerate('WVQ')) + ' }'
        return t

    def graph(s, S, k):
        """A SLOTTED row whose pointers lead to objects of their sorts, shared and in rings."""
        r = s.r
        T = S.types[k]
        objs = []
        pos = 1
        few = r.choice([0, 0, 1, 3])

        def shape(t):
            D, P = (S.types[t].D, S.types[t].P)
            z = r.random()
            if z < 0.3:
                return (0, 0)
            if z < 0.45:
                return (D, 0)
            if z < 0.6:
                return (0, P)
            return (D, P)

        def put(sort, t, F, D, P, n, size):
            nonlocal pos
            if pos + size <= 495:
                objs.append((pos, sort, t, F, D, P, n))
                pos += size
        put('r', k, None, T.D, T.P, 1, T.D + T.P)
        want = [(t, f) for t in range(len(S.types)) if S.types[t].rec for f in S.types[t].fields if not isnum(f.kind) or f.mode in 'NP']
        r.shuffle(want)
        for t, f in want[:r.choice([3, 10, 40])]:
            if f.mode == 'N' and isnum(f.kind):
                n = r.choice([1, 5, 64, 100])
                put('l', t, f, 0, 0, n, (n * BITS[f.kind] + 63) // 64)
            elif f.mode == 'N' and f.kind != 12:
                n = r.choice([1, 5, 30])
                put('t', t, f, 0, 0, n, n)
            elif f.mode == 'N':
                D, P = shape(f.t)
                n = r.choice([1, 3, 20, 100, 250, 390])
                put('R', f.t, f, D, P, n, 1 + n * (D + P))
            elif f.mode == 'P':
                n = r.choice([1, 2, 5, 30])
                D, P = entrysize(f)
                put('m', t, f, D, P, n, 1 + n * (D + P))
            elif f.kind == 12:
                D, P = shape(f.t)
                put('r', f.t, f, D, P, 1, D + P)
        for w in (0, 1, 2):
            put('s', None, None, 0, 0, r.choice([1, 4, 9, 20]), 3)
        words = [0] * pos

        def rp(p, o):
            return (o[0] - p - 1 & 1073741823) << 2 | o[4] << 32 | o[5] << 48

        def lp(p, o, sort, n):
            return 1 | (o[0] - p - 1 & 1073741823) << 2 | sort << 32 | n << 35

        def lead(p, f):
            """A word of a pointer for a field at a place."""
            if r.random() < 0.25:
                return 0
            if f.mode == 'N' or f.mode == 'P':
                c = [o for o in objs if o[3] is f]
                if not c:
                    c = [o for o in objs if o[1] == 'R' and o[2] == f.t and f.mode == 'N' and f.kind == 12]
                if not c:
                    return 0
                o = r.choice(c)
                if o[1] in 'Rm':
                    return lp(p, o, 7, o[6] * (o[4] + o[5]))
                return lp(p, o, {1: 1, 16: 3, 32: 4, 64: 5}[BITS[f.kind]] if isnum(f.kind) else 6, o[6])
            return one(p, f.kind, f.t)

        def one(p, kind, t):
            if r.random() < 0.2:
                return 0
            if kind == 12:
                c = [o for o in objs if o[1] == 'r' and o[2] == t]
                return rp(p, r.choice(c)) if c else (1073741823 << 2)
            c = [o for o in objs if o[1] == 's']
            return lp(p, r.choice(c), 2, r.choice([1, 1, 4, 9])) if c else 0

        def fill(at, t, D, P):
            for i in range(D):
                words[at + i] = r.choice([0, 0, 0, 0, 1 << r.randrange(64), r.getrandbits(64) if few else 0])
            T2 = S.types[t]
            for f in T2.fields:
                if f.ptr is not None and f.ptr < P and (f.one is None or r.random() < 0.5):
                    words[at + D + f.ptr] = lead(at + D + f.ptr, f)
                if f.one is not None and r.random() < 0.5:
                    tag = f.flag
                    if tag // 64 < D:
                        words[at + tag // 64] &= ~(65535 << tag % 64)
                        words[at + tag // 64] |= r.choice([0, 1, 2]) << tag % 64
        for o in objs:
            at, sort, t, f, D, P, n = o
            if sort == 'r':
                fill(at, t, D, P)
            elif sort == 'R':
                words[at] = n << 2 | D << 32 | P << 48
                for i in range(n):
                    fill(at + 1 + i * (D + P), t, D, P)
            elif sort == 'm':
                words[at] = n << 2 | D << 32 | P << 48
                for i in range(n):
                    b = at + 1 + i * (D + P)
                    x = 0
                    if isnum(f.keykind):
                        words[b] = i
                    else:
                        c = [q for q in objs if q[1] == 's']
                        x = 1
                        if c and i:
                            words[b + D] = lp(b + D, c[min(len(c) - 1, i - 1)], 2, 9)
                    if not isnum(f.kind):
                        words[b + D + x] = one(b + D + x, f.kind, f.t)
            elif sort == 't':
                for i in range(n):
                    words[at + i] = one(at + i, f.kind, f.t)
            elif sort == 'l':
                for i in range((n * BITS[f.kind] + 63) // 64):
                    words[at + i] = r.getrandbits(64)
            else:
                x = 7 + objs.index(o) % 3
                words[at] = r.choice([0, 97, 24930 << 40])
                words[at + 1] = 0
        top = objs[0]
        words[0] = rp(0, top)
        return b''.join(struct.pack('<Q', x & (1 << 64) - 1) for x in words)

    def shortest(s, S, k):
        """The shortest bytes of a record that have something of many of its fields."""
        r = s.r
        b = b''
        for f in S.types[k].fields:
            if (not isnum(f.kind) or f.mode in 'NP') and r.random() < 0.9:
                b += varint(f.num.v * 8 + 2) + b'\0'
        return b

    def piece(s, S, f):
        """A KEY and a value of a field in few bytes."""
        r = s.r
        if isnum(f.kind) and f.mode in 'SM':
            w = WIRE[f.kind]
            v = varint(r.choice([0, 1, 3, 7, 100])) if w == 0 else struct.pack('<q', r.choice([0, 1, 7]))[:8 if w == 1 else 4]
            return varint(f.num.v * 8 + w) + v
        x = b''
        if f.mode == 'P' and f.kind == 12 and r.random() < 0.5:
            x = s.shortest(S, f.t)
            x = b'\x12' + varint(len(x)) + x
        elif f.mode == 'P' and not isnum(f.kind):
            x = r.choice([b'', b'\x12\0'])
        elif f.kind == 12 and f.mode != 'P':
            x = s.shortest(S, f.t)
        elif not isnum(f.kind):
            x = r.choice([b'', b'abc', b'xy', b'z'])
        return varint(f.num.v * 8 + 2) + varint(len(x)) + x

    def wasteful(s, S, k):
        """A STREAM that tells one thing after another again."""
        r = s.r
        some = [s.piece(S, f) for f in S.types[k].fields if f.mode != 'N' or r.random() < 0.1]
        r.shuffle(some)
        some = some[:r.choice([1, 2, 3, 20])] or [b'']
        b = b''
        top = r.choice([100, 1000, 3960, 3960])
        for _ in range(4000):
            x = r.choice(some)
            if len(b) + len(x) > top:
                break
            b += x
        return b

    def play(s, steps):
        r = s.r
        w = s.w
        for _ in range(steps):
            t = s.wide()
            if len(t) > 4000:
                continue
            s.text(t)
            v = s.call('schema', 0)
            s.call('place')
            assert v >= 0, t
            S = w.sc[0]
            f0 = r.randrange(3)
            s.call('server', 0, 0, f0)
            s.call('client', 0, 0, 0)
            for _ in range(6):
                k = r.choice([2, 3, 4, 4, 4])
                f = r.choice([0, 2, 2, 2])
                if r.random() < 0.3:
                    s.text(s.msgtext(S, k))
                    v = s.call('read', 0, 1)
                    s.call('place')
                else:
                    s.rawload(s.graph(S, k) if f == 2 else s.wasteful(S, k), 0)
                    v = s.call('decode', 0, k, f, 0, 1)
                    s.call('place')
                if v >= 0:
                    s.probe_msg(1)
                    for g in range(3):
                        if s.call('encode', 1, g, 1 + g) >= 0:
                            s.call('decode', 0, k, g, 1 + g, 2)
                            s.call('place')
                            s.call('same', 1, 2)
                    s.call('merge', 2, 1)
                    s.call('told', 2, 2)
                    s.call('differ', 1, 2)
                    if s.call('invoke', 0, k - 2, 1) >= 0:
                        while w.letters:
                            s.call('deliver', 0)
                        s.call('cell', 0)
                        s.call('outcome', 0, w.xid[0] - 1, 0)

def entrysize(F):
    """Data words and pointers of a MAP's records."""
    bits = 0
    P = 0
    for kind in (F.keykind, F.kind):
        if isnum(kind):
            n = BITS[kind]
            bits = (bits + n - 1) // n * n + n
        else:
            P += 1
    return ((bits + 63) // 64, P)
KINDS_OF_RUNS = {'mixed': (Run, 60), 'limits': (Limits, 40), 'schemas': (Schemas, 40), 'rooms': (Rooms, 10)}

def lines(sort, first, count, limit):
    cls, steps = KINDS_OF_RUNS[sort]
    out = []
    for seed in range(first, first + count):
        g = cls(seed, limit)
        try:
            g.play(steps)
        except Enough:
            pass
        out += g.lines
    return out

def main():
    sort, first, count = (sys.argv[1], int(sys.argv[2]), int(sys.argv[3]))
    limit = int(sys.argv[4]) if len(sys.argv) > 4 else None
    print('\n'.join(lines(sort, first, count, limit)))
if __name__ == '__main__':
    main()
