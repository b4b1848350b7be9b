import java.util.ArrayList;
import java.util.HashMap;
import java.util.List;
import java.util.Map;
import java.util.TreeSet;

/**
 * The document written a second time, with other means than the class: queues for those who wait, each badge looked
 * for day by day, and for an hour every way to share the leaders. Answers as Calls does.
 */
final class Model {
    private final List<int[]> troops = new ArrayList<>();
    private final List<List<Integer>> members = new ArrayList<>();
    private final List<List<Integer>> queues = new ArrayList<>();
    private final List<Integer> ages = new ArrayList<>();
    private final Map<Integer, Integer> patrols = new HashMap<>();
    private final List<Map<String, Integer>> permits = new ArrayList<>();
    private final List<Integer> taught = new ArrayList<>();
    private final Map<Integer, List<int[]>> editions = new HashMap<>();
    /** By child and badge, the edition and the day. */
    private final Map<String, int[]> begun = new HashMap<>();
    private final Map<String, Integer> proven = new HashMap<>();
    private final List<int[]> events = new ArrayList<>();
    private final List<TreeSet<Integer>> staffs = new ArrayList<>();
    private final Map<Integer, Integer> taken = new HashMap<>();
    /** By child, what it owes to each troop. */
    private final Map<Integer, int[]> debts = new HashMap<>();
    private int today = 0;

    private static final class Refusal extends RuntimeException {
        private static final long serialVersionUID = 1L;

        Refusal(Class<?> kind) {
            super(kind.getName());
        }
    }

    String answer(int call, int[] a) {
        try {
            return String.valueOf(call < 9 ? troopCalls(call, a) : call < 15 ? badgeCalls(call, a)
                    : call < 19 ? eventCalls(call, a) : askingCalls(call, a));
        } catch (Refusal e) {
            return e.getMessage();
        }
    }

    private static void index(int number, int count) {
        if (number < 0 || number > count - 1) {
            throw new Refusal(IndexOutOfBoundsException.class);
        }
    }

    private static void argument(boolean isRight) {
        if (!isRight) {
            throw new Refusal(IllegalArgumentException.class);
        }
    }

    private static void state(boolean isRight) {
        if (!isRight) {
            throw new Refusal(IllegalStateException.class);
        }
    }

    private static boolean within(long value, long least, long greatest) {
        return least <= value && value <= greatest;
    }

    private int troopOf(int child) {
        for (int troop = 0; troop < troops.size(); troop++) {
            if (members.get(troop).contains(child)) {
                return troop;
            }
        }
        return -1;
    }

    private int waitsFor(int child) {
        for (int troop = 0; troop < troops.size(); troop++) {
            if (queues.get(troop).contains(child)) {
                return troop;
            }
        }
        return -1;
    }

    private boolean fits(int child, int troop) {
        return within(ages.get(child), troops.get(troop)[0], troops.get(troop)[1]);
    }

    private int[] patrolCounts(int troop) {
        int[] counts = new int[4];
        for (int child : members.get(troop)) {
            counts[patrols.get(child)]++;
        }
        return counts;
    }

    private void enter(int child, int troop) {
        int[] counts = patrolCounts(troop);
        int fewest = Math.min(Math.min(counts[0], counts[1]), Math.min(counts[2], counts[3]));
        int patrol = 3;
        for (int i = 3; i >= 0; i--) {
            patrol = counts[i] == fewest ? i : patrol;
        }
        patrols.put(child, patrol);
        members.get(troop).add(child);
    }

    private int joins(int child, int troop) {
        if (members.get(troop).size() < troops.get(troop)[2]) {
            enter(child, troop);
            return 0;
        }
        queues.get(troop).add(child);
        return queues.get(troop).size();
    }

    private int season() {
        List<Integer> out = new ArrayList<>();
        for (int child = 0; child < ages.size(); child++) {
            ages.set(child, ages.get(child) + 1);
        }
        for (int child = 0; child < ages.size(); child++) {
            int in = troopOf(child);
            int waits = waitsFor(child);
            if (in >= 0 && !fits(child, in)) {
                out.add(child);
                members.get(in).remove(Integer.valueOf(child));
                patrols.remove(child);
            }
            if (waits >= 0 && !fits(child, waits)) {
                queues.get(waits).remove(Integer.valueOf(child));
            }
        }
        for (int troop = 0; troop < troops.size(); troop++) {
            while (!queues.get(troop).isEmpty() && members.get(troop).size() < troops.get(troop)[2]) {
                enter(queues.get(troop).remove(0), troop);
            }
        }
        for (int child : out) {
            int troop = 0;
            while (troop < troops.size() && !fits(child, troop)) {
                troop++;
            }
            if (troop < troops.size()) {
                joins(child, troop);
            }
        }
        return out.size();
    }

    private long troopCalls(int call, int[] a) {
        switch (call) {
            case 0:
                argument(within(a[0], 5, 20) && within(a[1], a[0], 20) && within(a[2], 1, 12));
                state(troops.size() < 6);
                troops.add(a.clone());
                members.add(new ArrayList<>());
                queues.add(new ArrayList<>());
                return troops.size() - 1;
            case 1:
                argument(within(a[0], 5, 17));
                state(ages.size() < 24);
                ages.add(a[0]);
                debts.put(ages.size() - 1, new int[6]);
                return ages.size() - 1;
            case 2:
                index(a[0], ages.size());
                index(a[1], troops.size());
                state(troopOf(a[0]) < 0 && waitsFor(a[0]) < 0 && fits(a[0], a[1]));
                return joins(a[0], a[1]);
            case 3:
                index(a[0], ages.size());
                return leaves(a[0]);
            case 4:
                index(a[0], ages.size());
                argument(within(a[1], 0, 3));
                state(troopOf(a[0]) >= 0);
                return patrols.put(a[0], a[1]);
            case 5:
                index(a[0], troops.size());
                argument(within(a[1], 0, 9999));
                return duty(a[0], a[1]);
            case 6:
                argument(within(a[0], 1, 400));
                state(today + a[0] <= 9999);
                today += a[0];
                return today;
            case 7:
                return season();
            default:
                state(taught.size() < 8);
                taught.add(0);
                permits.add(new HashMap<>());
                return taught.size() - 1;
        }
    }

    private int leaves(int child) {
        int in = troopOf(child);
        int waits = waitsFor(child);
        state(in >= 0 || waits >= 0);
        if (waits >= 0) {
            queues.get(waits).remove(Integer.valueOf(child));
            return -1;
        }
        members.get(in).remove(Integer.valueOf(child));
        patrols.remove(child);
        if (queues.get(in).isEmpty()) {
            return -1;
        }
        int next = queues.get(in).remove(0);
        enter(next, in);
        return next;
    }

    private int duty(int troop, int day) {
        List<Integer> there = new ArrayList<>();
        int[] counts = patrolCounts(troop);
        for (int patrol = 0; patrol < 4; patrol++) {
            if (counts[patrol] > 0) {
                there.add(patrol);
            }
        }
        return there.isEmpty() ? -1 : there.get(day % there.size());
    }

    private boolean isVetted(int leader, int land, int day) {
        Map<String, Integer> told = permits.get(leader);
        return told.containsKey("from" + land) && within(day, told.get("from" + land), told.get("to" + land));
    }

    private static boolean isSet(int skills) {
        return within(skills, 0, 65535);
    }

    private long badgeCalls(int call, int[] a) {
        switch (call) {
            case 9:
                index(a[0], taught.size());
                index(a[1], 3);
                argument(within(a[2], 0, 9999) && within(a[3], a[2], 9999));
                permits.get(a[0]).put("from" + a[1], a[2]);
                permits.get(a[0]).put("to" + a[1], a[3]);
                return 0;
            case 10: {
                index(a[0], taught.size());
                argument(within(a[1], 1, 3) && within(a[2], -1, 9999));
                Integer before = permits.get(a[0]).put("kind" + a[1], a[2]);
                return before == null ? -1 : before;
            }
            case 11:
                index(a[0], taught.size());
                argument(isSet(a[1]));
                return taught.set(a[0], a[1]);
            case 12: {
                index(a[0], 8);
                argument(isSet(a[1]) && isSet(a[2]) && (a[1] & a[2]) == 0);
                argument(within(a[3], 0, Integer.bitCount(a[2])) && within(a[4], -1, a[0] - 1));
                argument((a[4] == -1 || within(a[5], 0, 400)) && within(a[6], 0, 4000));
                List<int[]> known = editions.computeIfAbsent(a[0], k -> new ArrayList<>());
                state(known.size() < 3);
                known.add(a.clone());
                return known.size() - 1;
            }
            case 13: {
                index(a[0], ages.size());
                index(a[1], 8);
                List<int[]> known = editions.getOrDefault(a[1], List.of());
                state(!known.isEmpty() && !begun.containsKey(a[0] + "/" + a[1]));
                begun.put(a[0] + "/" + a[1], new int[] {known.size() - 1, today});
                return known.size() - 1;
            }
            default:
                index(a[0], ages.size());
                index(a[1], 16);
                index(a[2], taught.size());
                state(isVetted(a[2], 0, today) || isVetted(a[2], 1, today) || isVetted(a[2], 2, today));
                state((taught.get(a[2]) >> a[1] & 1) == 1 && !proven.containsKey(a[0] + "/" + a[1]));
                proven.put(a[0] + "/" + a[1], today);
                return countEarned(a[0]);
        }
    }

    private boolean isMetOn(int child, int badge, int day) {
        int[] start = begun.get(child + "/" + badge);
        if (start == null || day < start[1]) {
            return false;
        }
        int[] edition = editions.get(badge).get(start[0]);
        int many = 0;
        for (int skill = 0; skill < 16; skill++) {
            boolean is = proven.getOrDefault(child + "/" + skill, 99999) <= day;
            if ((edition[1] >> skill & 1) == 1 && !is) {
                return false;
            }
            many += (edition[2] >> skill & 1) == 1 && is ? 1 : 0;
        }
        if (many < edition[3]) {
            return false;
        }
        if (edition[4] == -1) {
            return true;
        }
        int before = earnedOn(child, edition[4]);
        return before >= 0 && before + edition[5] <= day;
    }

    private int earnedOn(int child, int badge) {
        int[] start = begun.get(child + "/" + badge);
        if (start == null || !isMetOn(child, badge, today)) {
            return -1;
        }
        // What is met once stays met, so the first day may be looked for by halves.
        int low = start[1];
        int high = today;
        while (low < high) {
            int middle = (low + high) / 2;
            if (isMetOn(child, badge, middle)) {
                high = middle;
            } else {
                low = middle + 1;
            }
        }
        return low;
    }

    private int countEarned(int child) {
        int count = 0;
        for (int badge = 0; badge < 8; badge++) {
            count += earnedOn(child, badge) >= 0 ? 1 : 0;
        }
        return count;
    }

    private int verdict(int[] event, TreeSet<Integer> there) {
        int children = members.get(event[0]).size();
        int[] enough = {8, 4, 3, 6};
        if (children == 0) {
            return 0;
        }
        if (there.size() < (children + enough[event[2]] - 1) / enough[event[2]]) {
            return 1;
        }
        boolean hasPermit = event[2] == 0;
        for (int leader : there) {
            if (!isVetted(leader, event[1], event[3])) {
                return 2;
            }
            hasPermit |= permits.get(leader).getOrDefault("kind" + event[2], -1) >= event[3];
        }
        if (!hasPermit) {
            return 3;
        }
        return children + there.size() == 2 ? 4 : 0;
    }

    private boolean canShare(List<int[]> going, List<TreeSet<Integer>> teams, int leader, int them) {
        if (leader == taught.size()) {
            boolean isLawful = true;
            for (int i = 0; i < going.size(); i++) {
                isLawful &= verdict(going.get(i), teams.get(i)) == 0;
            }
            return isLawful;
        }
        if (canShare(going, teams, leader + 1, them)) {
            return true;
        }
        for (int i = 0; i < going.size() && (them >> leader & 1) == 1; i++) {
            teams.get(i).add(leader);
            boolean can = canShare(going, teams, leader + 1, them);
            teams.get(i).remove(leader);
            if (can) {
                return true;
            }
        }
        return false;
    }

    private static boolean isCommon(int[] one, int[] other) {
        boolean is = false;
        for (int hour = 0; hour < 24; hour++) {
            is |= isIn(one, one[3], hour) && isIn(other, one[3], hour);
        }
        return is;
    }

    private static boolean isIn(int[] event, int day, int hour) {
        return event[3] == day && within(hour, event[4], event[4] + event[5] - 1);
    }

    private long eventCalls(int call, int[] a) {
        switch (call) {
            case 15:
                index(a[0], troops.size());
                index(a[1], 3);
                argument(within(a[2], 0, 3) && within(a[3], today, 9999) && within(a[4], 0, 23));
                argument(within(a[5], 1, 24 - a[4]));
                state(events.size() < 20);
                events.add(a.clone());
                staffs.add(new TreeSet<>());
                return events.size() - 1;
            case 16:
                index(a[0], events.size());
                index(a[1], taught.size());
                for (int other = 0; other < events.size(); other++) {
                    state(a[2] == 0 || other == a[0] || !staffs.get(other).contains(a[1])
                            || !isCommon(events.get(other), events.get(a[0])));
                }
                if (a[2] != 0) {
                    staffs.get(a[0]).add(a[1]);
                } else {
                    staffs.get(a[0]).remove(a[1]);
                }
                return staffs.get(a[0]).size();
            case 17:
                index(a[0], events.size());
                return verdict(events.get(a[0]), staffs.get(a[0]));
            default: {
                argument(within(a[0], 0, 9999) && within(a[1], 0, 23));
                argument(within(a[2], 0, (1 << taught.size()) - 1));
                List<int[]> going = new ArrayList<>();
                List<TreeSet<Integer>> teams = new ArrayList<>();
                for (int[] event : events) {
                    if (isIn(event, a[0], a[1])) {
                        going.add(event);
                        teams.add(new TreeSet<>());
                    }
                }
                state(going.size() < 4);
                return canShare(going, teams, 0, a[2]) ? 1 : 0;
            }
        }
    }

    private int debt(int child) {
        int coins = 0;
        for (int part : debts.get(child)) {
            coins += part;
        }
        return coins;
    }

    private long boxCalls(int call, int[] a) {
        if (call == 21) {
            index(a[0], troops.size());
            int coins = 0;
            for (int[] parts : debts.values()) {
                coins += parts[a[0]];
            }
            return coins;
        }
        index(a[0], ages.size());
        if (call == 19) {
            argument(within(a[1], 1, 99));
            int troop = troopOf(a[0]);
            state(troop >= 0 && debt(a[0]) == debts.get(a[0])[troop]);
            state(taken.getOrDefault(a[0], 0) + a[1] <= 9999);
            taken.merge(a[0], a[1], Integer::sum);
            debts.get(a[0])[troop] += 4 * a[1];
        } else {
            argument(within(a[1], 1, 396));
            state(debt(a[0]) >= a[1]);
            for (int troop = 0; troop < 6; troop++) {
                debts.get(a[0])[troop] -= debts.get(a[0])[troop] > 0 ? a[1] : 0;
            }
        }
        return debt(a[0]);
    }

    private long askingCalls(int call, int[] a) {
        if (call < 22) {
            return boxCalls(call, a);
        }
        if (call == 22) {
            return today;
        }
        if (call == 24) {
            index(a[0], troops.size());
            return (a[1] != 0 ? queues : members).get(a[0]).size();
        }
        index(a[0], ages.size());
        if (call == 23) {
            argument(within(a[1], 0, 5));
            int patrol = patrols.getOrDefault(a[0], -1);
            int[] told = {ages.get(a[0]), troopOf(a[0]), waitsFor(a[0]), patrol, countEarned(a[0]), debt(a[0])};
            return told[a[1]];
        }
        index(a[1], 8);
        int[] start = begun.get(a[0] + "/" + a[1]);
        int day = earnedOn(a[0], a[1]);
        if (call == 25) {
            return day;
        }
        if (call == 26) {
            int lasts = start == null ? 0 : editions.get(a[1]).get(start[0])[6];
            return day >= 0 && (lasts == 0 || today <= day + lasts - 1) ? 1 : 0;
        }
        state(start != null);
        int lacking = editions.get(a[1]).get(start[0])[1];
        for (int skill = 0; skill < 16; skill++) {
            lacking &= proven.containsKey(a[0] + "/" + skill) ? ~(1 << skill) : -1;
        }
        return lacking;
    }
}
