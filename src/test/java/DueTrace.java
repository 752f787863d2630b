import java.util.ArrayList;
import java.util.List;

/** Writes a trace down from the document's words, without any rows. */
final class DueTrace {
    private final List<Integer> codes = new ArrayList<>();

    int length() {
        return codes.size();
    }

    int get(int k) {
        return codes.get(k);
    }

    void read(int p) {
        codes.add(2 * p);
    }

    void write(int p) {
        codes.add(2 * p + 1);
    }

    void exchange(int i, int j) {
        read(i);
        read(j);
        write(i);
        write(j);
    }

    void scan(int base, int n) {
        for (int p = 0; p < n; p++) {
            read(base + p);
            write(base + p);
        }
    }

    void scanBack(int n) {
        for (int p = n - 1; p >= 0; p--) {
            read(p);
            write(p);
        }
    }

    void sort(int base, int n) {
        if (n < 2) {
            return;
        }
        int t = 0;
        while ((1 << t) < n) {
            t++;
        }
        for (int e = t - 1; e >= 0; e--) {
            int p = 1 << e;
            int q = 1 << (t - 1);
            int r = 0;
            int d = p;
            while (true) {
                for (int i = 0; i <= n - d - 1; i++) {
                    if ((i & p) == r) {
                        exchange(base + i, base + i + d);
                    }
                }
                if (q == p) {
                    break;
                }
                d = q - p;
                q = q / 2;
                r = p;
            }
        }
    }

    void squeeze(int base, int n) {
        for (int d = 1; d < n; d = d * 2) {
            for (int i = d; i <= n - 1; i++) {
                exchange(base + i - d, base + i);
            }
        }
    }

    void spread(int base, int n) {
        for (int e = 30; e >= 0; e--) {
            int d = 1 << e;
            for (int i = n - 1; d < n && i >= d; i--) {
                exchange(base + i - d, base + i);
            }
        }
    }

    void filter(int n) {
        scan(0, n);
        squeeze(0, n);
    }

    void pick(int n) {
        scan(0, n);
    }

    void distinct(int n) {
        sort(0, n);
        scan(0, n);
        squeeze(0, n);
    }

    void group(int n) {
        sort(0, n);
        scan(0, n);
        scanBack(n);
        squeeze(0, n);
    }

    void batch(int n, int c) {
        distinct(n + c);
    }

    void join(int n, int u, int m) {
        int k = n + u;
        sort(0, k);
        scan(0, k);
        scanBack(k);
        sort(0, k);
        if (m == 0 || m > 24) {
            return;
        }
        for (int p = 0; p < k; p++) {
            read(p);
            write(p + 40);
        }
        for (int base = 0; base <= 40; base += 40) {
            scan(base, k);
            squeeze(base, k);
            spread(base, Math.max(k, m));
            scan(base, m);
        }
        sort(40, m);
        for (int p = 0; p < m; p++) {
            read(p);
            read(p + 40);
            write(p);
        }
    }
}
