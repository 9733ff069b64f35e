import java.util.ArrayList;
import java.util.Arrays;
import java.util.List;

/** The document written down a second time, as plainly as can be, to compare SignRows with. */
final class PlainRows {
    private record Role(int person, int number, long from, long to) {
    }

    private record Signature(int thing, int person, int meaning, byte[] digest) {
    }

    private record Order(int meaning, int after) {
    }

    private int persons;
    private final List<Role> roles = new ArrayList<>();
    private final List<Integer> makers = new ArrayList<>();
    private final List<List<Byte>> bytes = new ArrayList<>();
    private final List<List<Integer>> comments = new ArrayList<>();
    private final List<List<Integer>> needs = new ArrayList<>();
    private final List<Signature> signatures = new ArrayList<>();
    private final List<Integer> withdrawn = new ArrayList<>();
    private final List<Order> orders = new ArrayList<>();
    private long clock;

    int person() {
        return persons == 24 ? SignRows.FULL : persons++;
    }

    boolean role(int person, int r, long from, long to) {
        if (!in(person, persons) || !in(r, 10) || !isSecond(from) || !isSecond(to) || from > to) {
            return false;
        }
        return roles.size() < 100 && roles.add(new Role(person, r, from, to));
    }

    int thing(int maker) {
        if (!in(maker, persons)) {
            return SignRows.NONE;
        }
        if (makers.size() == 16) {
            return SignRows.FULL;
        }
        makers.add(maker);
        bytes.add(new ArrayList<>());
        comments.add(new ArrayList<>());
        needs.add(new ArrayList<>());
        return makers.size() - 1;
    }

    boolean byteOf(int thing, int b) {
        return isThing(thing) && in(b, 256) && bytes.get(thing).size() < 1000 && bytes.get(thing).add((byte) b);
    }

    int sign(int thing, int person, int meaning, long second) {
        if (!isThing(thing) || !in(person, persons) || !in(meaning, 10)) {
            return SignRows.NONE;
        }
        if (!isSecond(second) || second < clock) {
            return SignRows.LATE;
        }
        if (roles.stream().noneMatch(r -> r.person == person && r.number == meaning && r.from <= second && second <= r.to)) {
            return Run.THROWN;
        }
        if (makers.get(thing) == person) {
            return SignRows.MAKER;
        }
        if (orders.stream().anyMatch(o -> o.meaning == meaning && !isMeant(thing, o.after))) {
            return SignRows.ORDER;
        }
        for (int s = 0; s < signatures.size(); s++) {
            Signature old = signatures.get(s);
            if (old.thing == thing && old.person == person && old.meaning == meaning && holds(s)) {
                return SignRows.TWICE;
            }
        }
        if (signatures.size() == 400) {
            return SignRows.FULL;
        }
        signatures.add(new Signature(thing, person, meaning, digestOf(thing)));
        clock = second;
        return signatures.size() - 1;
    }

    boolean holds(int signature) {
        if (!in(signature, signatures.size()) || withdrawn.contains(signature)) {
            return false;
        }
        Signature asked = signatures.get(signature);
        return Arrays.equals(asked.digest, digestOf(asked.thing));
    }

    boolean withdraw(int signature) {
        return in(signature, signatures.size()) && !withdrawn.contains(signature) && withdrawn.add(signature);
    }

    boolean order(int meaning, int after) {
        if (!in(meaning, 10) || !in(after, 10) || meaning == after) {
            return false;
        }
        Order told = new Order(meaning, after);
        return !orders.contains(told) && !comesBehind(after, meaning) && orders.add(told);
    }

    int complete(int thing) {
        if (!isThing(thing)) {
            return SignRows.NONE;
        }
        List<Integer> needed = needs.get(thing);
        for (int n = 0; n < needed.size(); n++) {
            if (!isMeant(thing, needed.get(n))) {
                return 1 + n;
            }
        }
        return 0;
    }

    boolean comment(int thing, int u, long second) {
        if (!isThing(thing) || !in(u, 256) || !isSecond(second) || second < clock || comments.get(thing).size() == 200) {
            return false;
        }
        comments.get(thing).add(u);
        clock = second;
        return true;
    }

    int digest(int thing, int i) {
        if (!isThing(thing) || i < 0) {
            return SignRows.NONE;
        }
        if (i < 32) {
            return digestOf(thing)[i] & 0xff;
        }
        return i - 32 < comments.get(thing).size() ? comments.get(thing).get(i - 32) : SignRows.NONE;
    }

    int listed(int k) {
        return in(k, withdrawn.size()) ? withdrawn.get(k) : SignRows.NONE;
    }

    int needs(int thing, int meaning) {
        if (!isThing(thing) || !in(meaning, 10)) {
            return SignRows.NONE;
        }
        if (!needs.get(thing).contains(meaning)) {
            needs.get(thing).add(meaning);
        }
        return needs.get(thing).indexOf(meaning);
    }

    private static boolean in(int number, int count) {
        return 0 <= number && number < count;
    }

    private static boolean isSecond(long second) {
        return 0 <= second && second <= Run.LAST;
    }

    private boolean isThing(int thing) {
        return in(thing, makers.size());
    }

    private boolean isMeant(int thing, int meaning) {
        for (int s = 0; s < signatures.size(); s++) {
            if (signatures.get(s).thing == thing && signatures.get(s).meaning == meaning && holds(s)) {
                return true;
            }
        }
        return false;
    }

    private boolean comesBehind(int meaning, int earlier) {
        return orders.stream().anyMatch(o -> o.meaning == meaning && (o.after == earlier || comesBehind(o.after, earlier)));
    }

    private byte[] digestOf(int thing) {
        List<Byte> held = bytes.get(thing);
        byte[] row = new byte[held.size()];
        for (int i = 0; i < row.length; i++) {
            row[i] = held.get(i);
        }
        return Digests.sha256(row);
    }
}
